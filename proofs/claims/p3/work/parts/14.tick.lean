set_option maxHeartbeats 4000000 in
set_option maxRecDepth 100000 in
theorem c_X3_setSpeed (l : Launch) (D : va_G) (tc : Nat → ClassId) (z0 : Nat) (L : List Nat) (κ : Nat → Nat) (g : Nat → Nat → Value) (sz : Nat) (p0 : Nat) (hk0 : κ p0 = 5) : Met l yX3_setSpeed wsX3_setSpeed ({ frames := 2, cells := 0, slots := 0, locals := 60 }) (zPc D tc z0 [.ref p0] [] (L, κ, g) sz) (va_Qv (fun (u : zS) => u = (L, κ, g)) (fun (u : zS) (t : State) => zB D tc (zA [] L sz) [] u t) (zA [] L sz)) 0 0 (zA [] L sz) := by
  refine Met.ofW (cc := cX3_setSpeed) (maxL := 1) (ret := none) (by decide) rfl ?_
  intro p e s m args below meth c s₁ B hml hv
  obtain ⟨rfl, rfl, hK, hE, hI⟩ := hv.opn
  have hx := B.exec
  have hb := B.bytes
  have hr := B.returns
  have hts := atoms_spec (ws := wsX3_setSpeed) B.pre
  have hown : s.vm.findClass RX3 = some m.cls := findClass_of_methodNamed B.named
  have hlocks := B.notSynchronized
  have hM : zM p s m c cX3_setSpeed _ wsX3_setSpeed RX3 D tc := ⟨hx, hb, hts, hown, hK⟩
  have hinX3 : ∀ w ∈ wsX30, w ∈ wsX3_setSpeed := by decide +kernel
  have hinX4 : ∀ w ∈ wsX40, w ∈ wsX3_setSpeed := by decide +kernel
  have hl := lv_entry ([.ref p0]) (n := 1) (Nat.le_of_ble_eq_true rfl)
  rw [lg_entry_eq]
  generalize (lg_sl ([.ref p0]) ++ List.replicate (1 - (lg_sl ([.ref p0])).length) Slot.unset).toArray = ls at hl ⊢
  have hl : lv_has ls 1 [(0, .ref p0)] := hl
  have hL : ∀ (n : Nat) (H : Heap) (locs : List Loc) (f : Nat → va_E) (x : Int32) (k : Nat) (hn : k < n) (hxk : x = nI k ∨ x ≤ 0) (hf : zF f p0 7 = .int x) (hI : zIF D tc (zA [] L s.heap.size) s.heap [] L κ g f H locs) (ls : Array Slot) (hl : lv_has ls 1 [(0, .ref p0)]), W p l e (headSpec wsX3_setSpeed ({ frames := 2, cells := 0, slots := 0, locals := 60 })).room s m (([.ref p0] : List Value).toArray) below meth c H locs 0 0 (MQ below (va_Qv (fun (u : zS) => u = (L, κ, g)) (fun (u : zS) (t : State) => zB D tc (zA [] L s.heap.size) [] u t) (zA [] L s.heap.size)) (([.ref p0] : List Value).toArray) s 0 0 (zA [] L s.heap.size)) (F0 m 8 ls []) := by
    intro n
    induction n with
    | zero => intro H locs f x k hn; exact absurd hn (Nat.not_lt_zero _)
    | succ n ih =>
      intro H locs f x k hn hxk hf hI ls hl
      have hI0 := hI.to
      refine lv_aload_n hx hb dX3_setSpeed_8 rfl (lv_at hl 0 rfl) ?_
      refine z_getF (k := 5) (j := 7) hM hI hk0 rfl rfl hinX3 rfl (by decide) (by decide +kernel) (fun _ h9 => h9) dX3_setSpeed_9 (fun v1 h1 hv1 => ?_)
      obtain rfl := hf.symm.trans h1
      refine lv_if_le (tgt := 46) hx hb dX3_setSpeed_12 (by decide) (fun c1 => ?_) (fun c1 => ?_)
      · exact W.vret hx hb hr (fun t ht hW => ⟨⟨(L, κ, g), rfl, rfl, z_end hK hI0 ht hW⟩, z_F hI0 ht⟩) (z_locs hI0) dX3_setSpeed_46
      · have hxk : x = nI k := by
          rcases hxk with h | h
          · exact h
          · exact absurd h c1
        subst hxk
        rcases k with _ | j
        · exact absurd (by decide) c1
        · refine lv_aload_n hx hb dX3_setSpeed_15 rfl (lv_at hl 0 rfl) ?_
          refine lv_aload_n hx hb dX3_setSpeed_16 rfl (lv_at hl 0 rfl) ?_
          refine z_getF (k := 5) (j := 7) hM hI hk0 rfl rfl hinX3 rfl (by decide) (by decide +kernel) (fun _ h9 => h9) dX3_setSpeed_17 (fun v2 h2 hv2 => ?_)
          obtain rfl := hf.symm.trans h2
          refine vp_callSi (W.runV (As := [.int (nI (j + 1))]) (rest := []) ⟨hx, hb, hml, hown, hts⟩ (c_X3_voltsFor l _ _ _ _ _ _ _ p0 hk0 (nI (j + 1))) (cwV 1 hts gX3_setSpeed_X3_voltsFor rfl rfl rfl (by decide +kernel) ⟨Nat.le_of_ble_eq_true rfl, Nat.le_of_ble_eq_true rfl⟩) (z_preV hK hE hI0 [] rfl rfl (z_recv hK hI0 hk0 rfl rfl)) rfl rfl hl.1 rfl (lv_room (Nat.le_of_ble_eq_true rfl)) dX3_setSpeed_20 ⟨Nat.le_of_ble_eq_true rfl, Nat.le_of_ble_eq_true rfl⟩) (fun v3 hw3 => ?_)
          refine lv_aload_n hx hb dX3_setSpeed_23 rfl (lv_at hl 0 rfl) ?_
          refine z_get (k := 5) (j := 1) hM hI0 hk0 rfl rfl hinX3 rfl (by decide) (by decide +kernel) (fun _ h9 => h9) dX3_setSpeed_24 (fun v4 hv4 => ?_)
          obtain ⟨r4, rfl, hr4⟩ := hv4
          refine z_get (k := 6) (j := 0) hM hI0 hr4 rfl rfl hinX4 rfl (by decide) (by decide +kernel) (fun _ h9 => h9) dX3_setSpeed_27 (fun v5 hv5 => ?_)
          obtain ⟨i5, rfl⟩ := hv5
          refine lv_icmp_le (tgt := 46) hx hb dX3_setSpeed_30 (by decide) (fun c2 => ?_) (fun c2 => ?_)
          · exact W.vret hx hb hr (fun t ht hW => ⟨⟨(L, κ, g), rfl, rfl, z_end hK hI0 ht hW⟩, z_F hI0 ht⟩) (z_locs hI0) dX3_setSpeed_46
          · refine lv_aload_n hx hb dX3_setSpeed_33 rfl (lv_at hl 0 rfl) ?_
            refine lv_dup hx hb dX3_setSpeed_34 rfl ?_
            refine z_getF (k := 5) (j := 7) hM hI hk0 rfl rfl hinX3 rfl (by decide) (by decide +kernel) (fun _ h9 => h9) dX3_setSpeed_35 (fun v6 h6 hv6 => ?_)
            obtain rfl := hf.symm.trans h6
            refine lv_iconst (v := 1) hx hb dX3_setSpeed_38 (by decide) ?_
            refine lv_isub hx hb dX3_setSpeed_39 ?_
            rw [nI_pred]
            refine z_putF (k := 5) (j := 7) hM hI hk0 rfl rfl hinX3 tyX3 tyX3_ok nmX3 rfl (by decide) (by decide +kernel) (fun _ h9 => h9) rfl rfl rfl rfl ⟨_, rfl⟩ dX3_setSpeed_40 (fun f H locs hI hf => ?_)
            refine lv_goto (tgt := 8) hx hb dX3_setSpeed_43 (by decide) ?_
            exact ih _ _ _ _ j (by omega) (Or.inl rfl) hf hI _ hl
  refine lv_aload_n hx hb dX3_setSpeed_0 rfl (lv_at hl 0 rfl) ?_
  refine lv_aload_n hx hb dX3_setSpeed_1 rfl (lv_at hl 0 rfl) ?_
  refine z_get (k := 5) (j := 6) hM hI hk0 rfl rfl hinX3 rfl (by decide) (by decide +kernel) (fun _ h9 => h9) dX3_setSpeed_2 (fun v1 hv1 => ?_)
  obtain ⟨i1, rfl⟩ := hv1
  refine z_put (g' := g) (k := 5) (j := 7) hM hI hk0 rfl rfl hinX3 tyX3 tyX3_ok nmX3 rfl (by decide) (by decide +kernel) (fun _ h9 => h9) rfl rfl rfl rfl ⟨_, rfl⟩ (fun _ _ _ => rfl) dX3_setSpeed_5 (fun H locs hI => ?_)
  obtain ⟨f, hIF⟩ := hI.ex
  obtain ⟨x, hf⟩ := z_fld hIF hk0 rfl (j := 7) (t := (0, 0)) rfl
  have hxk : ∃ k, x = nI k ∨ x ≤ 0 := by
    by_cases hx0 : x < 0
    · exact ⟨0, Or.inr (Int32.le_of_lt hx0)⟩
    · obtain ⟨j, -, e⟩ := nI_of hx0
      exact ⟨j, Or.inl e⟩
  obtain ⟨k, hxk⟩ := hxk
  exact hL (k + 1) _ _ f x k (by omega) hxk hf hIF _ hl

set_option maxHeartbeats 4000000 in
set_option maxRecDepth 100000 in
theorem c_X8_runningOn (l : Launch) (D : va_G) (tc : Nat → ClassId) (z0 : Nat) (L : List Nat) (κ : Nat → Nat) (g : Nat → Nat → Value) (sz : Nat) (p0 : Nat) (hk0 : κ p0 = 10) (p1 : Int32) : Met l yX8_runningOn wsX8_runningOn ({ frames := 0, cells := 0, slots := 0, locals := 0 }) (zPc D tc z0 [.ref p0, .int p1] [] (L, κ, g) sz) (va_Sq (fun r : Option Nat => ∀ a : Nat, r = some a → κ a = 9)) 0 0 (fun _ => False) := by
  refine Met.ofW (cc := cX8_runningOn) (maxL := 6) (ret := (some (.object "Wattgovern$Task"))) (by decide) rfl ?_
  intro p e s m args below meth c s₁ B hml hv
  obtain ⟨rfl, rfl, hK, hE, hI⟩ := hv.opn
  have hx := B.exec
  have hb := B.bytes
  have hr := B.returns
  have hts := atoms_spec (ws := wsX8_runningOn) B.pre
  have hown : s.vm.findClass RX8 = some m.cls := findClass_of_methodNamed B.named
  have hlocks := B.notSynchronized
  have hM : zM p s m c cX8_runningOn _ wsX8_runningOn RX8 D tc := ⟨hx, hb, hts, hown, hK⟩
  have hinX8 : ∀ w ∈ wsX80, w ∈ wsX8_runningOn := by decide +kernel
  have hinX7 : ∀ w ∈ wsX70, w ∈ wsX8_runningOn := by decide +kernel
  have hl := lv_entry ([.ref p0, .int p1]) (n := 6) (Nat.le_of_ble_eq_true rfl)
  rw [lg_entry_eq]
  generalize (lg_sl ([.ref p0, .int p1]) ++ List.replicate (6 - (lg_sl ([.ref p0, .int p1])).length) Slot.unset).toArray = ls at hl ⊢
  have hl : lv_has ls 6 [(0, .ref p0), (1, .int p1)] := hl
  refine lv_aload_n hx hb dX8_runningOn_0 rfl (lv_at hl 0 rfl) ?_
  refine z_get (k := 10) (j := 2) hM hI hk0 rfl rfl hinX8 rfl (by decide) (by decide +kernel) (fun _ h9 => h9) dX8_runningOn_1 (fun v1 hv2 => ?_)
  obtain ⟨hg4, i3, rfl, hr5⟩ := hv2
  refine lv_astore_n (lv' := [(2, .ref i3), (0, .ref p0), (1, .int p1)]) hx hb dX8_runningOn_4 rfl hl (by decide) rfl (fun ls hl => ?_)
  refine lv_aload_n hx hb dX8_runningOn_5 rfl (lv_at hl 0 rfl) ?_
  refine z_alen (v := 8) hM hI hr5 rfl rfl rfl (by decide) dX8_runningOn_6 ?_
  refine lv_istore_n (lv' := [(3, .int 8), (2, .ref i3), (0, .ref p0), (1, .int p1)]) hx hb dX8_runningOn_7 rfl hl (by decide) rfl (fun ls hl => ?_)
  refine lv_iconst (v := 0) hx hb dX8_runningOn_8 (by decide) ?_
  refine lv_istore (lv' := [(4, .int 0), (3, .int 8), (2, .ref i3), (0, .ref p0), (1, .int p1)]) hx hb dX8_runningOn_9 hl (by decide) rfl (fun ls hl => ?_)
  have hL11 : ∀ (n : Nat)   (i6 : Nat) (hi : i6 ≤ 8) (hn : 8 - i6 < n)   (ls : Array Slot) (hl : lv_has ls 6 [(3, .int 8), (2, .ref i3), (0, .ref p0), (1, .int p1), (4, .int ((nI i6)))]), W p l e (headSpec wsX8_runningOn ({ frames := 0, cells := 0, slots := 0, locals := 0 })).room s m ([.ref p0, .int p1] : List Value).toArray below meth c s.heap [] 0 0 (MQ below (va_Sq (fun r : Option Nat => ∀ a : Nat, r = some a → κ a = 9)) ([.ref p0, .int p1] : List Value).toArray s 0 0 (fun _ => False)) (F0 m 11 ls []) := by
    intro n
    induction n with
    | zero => intro i6 hi hn ls hl; exact absurd hn (Nat.not_lt_zero _)
    | succ n ih =>
      intro i6 hi hn ls hl
      refine lv_iload hx hb dX8_runningOn_11 (lv_at hl 4 rfl) ?_
      refine lv_iload_n hx hb dX8_runningOn_13 rfl (lv_at hl 0 rfl) ?_
      refine lv_icmp_ge (tgt := 54) hx hb dX8_runningOn_14 (by decide) (fun c7 => ?_) (fun c7 => ?_)
      · skip
        have hgec7 : 8 ≤ i6 := z_ge (by omega) (by omega) c7
        refine lv_null hx hb dX8_runningOn_54 ?_
        exact W.aret (v := .null) hx hb hr (Or.inl ⟨_, rfl⟩) (Or.inl rfl) (fun t ht hW => ⟨none, rfl, (fun _ h => by cases h), ht⟩) (fun q h => by cases h) dX8_runningOn_55
      · skip
        have hltc7 : i6 < 8 := z_lt (by omega) c7
        refine lv_aload_n hx hb dX8_runningOn_17 rfl (lv_at hl 1 rfl) ?_
        refine lv_iload hx hb dX8_runningOn_18 (lv_at hl 4 rfl) ?_
        refine z_aald hM hI hr5 rfl rfl rfl (vp_in_nI (by omega) (by omega)) dX8_runningOn_20 (fun x8 hv9 => ?_)
        have hL48 : ∀     (ls : Array Slot) (hl : lv_has ls 6 [(3, .int 8), (2, .ref i3), (0, .ref p0), (1, .int p1), (4, .int ((nI i6)))]), W p l e (headSpec wsX8_runningOn ({ frames := 0, cells := 0, slots := 0, locals := 0 })).room s m ([.ref p0, .int p1] : List Value).toArray below meth c s.heap [] 0 0 (MQ below (va_Sq (fun r : Option Nat => ∀ a : Nat, r = some a → κ a = 9)) ([.ref p0, .int p1] : List Value).toArray s 0 0 (fun _ => False)) (F0 m 48 ls []) := by
          intro ls hl
          refine lv_iinc (v := nI (i6 + 1)) (lv' := [(4, .int ((nI (i6 + 1)))), (3, .int 8), (2, .ref i3), (0, .ref p0), (1, .int p1)]) hx hb dX8_runningOn_48 hl (k := 4) rfl (z_inc i6) (by decide) rfl (fun ls hl => ?_)
          refine lv_goto (tgt := 11) hx hb dX8_runningOn_51 (by decide) ?_
          exact ih (i6 + 1) (by first | omega | (simp only [] at *; omega)) (by first | omega | (simp only [] at *; omega)) ls (lv_sub hl [1, 2, 3, 4, 0] rfl)
        obtain ⟨hghv9, hn12 | ⟨r10, hn12, hr11⟩⟩ := hv9
        · rw [hn12]
          rw [hn12] at hghv9
          refine lv_astoreN (lv' := [(5, .null), (3, .int 8), (2, .ref i3), (0, .ref p0), (1, .int p1), (4, .int ((nI i6)))]) hx hb dX8_runningOn_21 hl (by decide) rfl (fun ls hl => ?_)
          refine lv_aloadN hx hb dX8_runningOn_23 (lv_at hl 0 rfl) ?_
          refine lv_ifnullN (tgt := 48) hx hb dX8_runningOn_25 (by decide) ?_
          exact hL48 ls (lv_sub hl [1, 2, 3, 4, 5] rfl)
        · rw [hn12]
          rw [hn12] at hghv9
          refine lv_astore (lv' := [(5, .ref r10), (3, .int 8), (2, .ref i3), (0, .ref p0), (1, .int p1), (4, .int ((nI i6)))]) hx hb dX8_runningOn_21 hl (by decide) rfl (fun ls hl => ?_)
          refine lv_aload hx hb dX8_runningOn_23 (lv_at hl 0 rfl) ?_
          refine lv_ifnull hx hb dX8_runningOn_25 ?_
          refine lv_aload hx hb dX8_runningOn_28 (lv_at hl 0 rfl) ?_
          refine z_get (k := 9) (j := 1) hM hI hr11 rfl rfl hinX7 rfl (by decide) (by decide +kernel) (fun _ h9 => h9) dX8_runningOn_30 (fun v13 hv14 => ?_)
          obtain ⟨hg16, i15, rfl⟩ := hv14
          refine lv_iload_n hx hb dX8_runningOn_33 rfl (lv_at hl 4 rfl) ?_
          refine lv_icmp_ne (tgt := 48) hx hb dX8_runningOn_34 (by decide) (fun c17 => ?_) (fun c17 => ?_)
          · skip
            exact hL48 ls (lv_sub hl [1, 2, 3, 4, 5] rfl)
          · skip
            refine lv_aload hx hb dX8_runningOn_37 (lv_at hl 0 rfl) ?_
            refine z_get (k := 9) (j := 2) hM hI hr11 rfl rfl hinX7 rfl (by decide) (by decide +kernel) (fun _ h9 => h9) dX8_runningOn_39 (fun v18 hv19 => ?_)
            obtain ⟨i20, rfl⟩ := hv19
            refine lv_if_le (tgt := 48) hx hb dX8_runningOn_42 (by decide) (fun c21 => ?_) (fun c21 => ?_)
            · skip
              exact hL48 ls (lv_sub hl [1, 2, 3, 4, 5] rfl)
            · skip
              refine lv_aload hx hb dX8_runningOn_45 (lv_at hl 0 rfl) ?_
              exact W.aret (v := .ref r10) hx hb hr (Or.inl ⟨_, rfl⟩) (Or.inr ⟨_, rfl⟩) (fun t ht hW => ⟨some r10, rfl, (fun _ h => by cases h; exact hr11), ht⟩) (fun q h => by cases h) dX8_runningOn_47
  exact hL11 (8 + 1) 0 (by first | omega | (simp only [] at *; omega)) (by first | omega | (simp only [] at *; omega)) ls (lv_sub hl [1, 2, 3, 4, 0] rfl)

set_option maxHeartbeats 4000000 in
set_option maxRecDepth 100000 in
theorem c_X8_threadsWithWorkOn (l : Launch) (D : va_G) (tc : Nat → ClassId) (z0 : Nat) (L : List Nat) (κ : Nat → Nat) (g : Nat → Nat → Value) (sz : Nat) (p0 : Nat) (hk0 : κ p0 = 10) (p1 : Int32) : Met l yX8_threadsWithWorkOn wsX8_threadsWithWorkOn ({ frames := 0, cells := 0, slots := 0, locals := 0 }) (zPc D tc z0 [.ref p0, .int p1] [] (L, κ, g) sz) (vp_Si (fun r : Int32 => True)) 0 0 (fun _ => False) := by
  refine Met.ofW (cc := cX8_threadsWithWorkOn) (maxL := 7) (ret := (some .int)) (by decide) rfl ?_
  intro p e s m args below meth c s₁ B hml hv
  obtain ⟨rfl, rfl, hK, hE, hI⟩ := hv.opn
  have hx := B.exec
  have hb := B.bytes
  have hr := B.returns
  have hts := atoms_spec (ws := wsX8_threadsWithWorkOn) B.pre
  have hown : s.vm.findClass RX8 = some m.cls := findClass_of_methodNamed B.named
  have hlocks := B.notSynchronized
  have hM : zM p s m c cX8_threadsWithWorkOn _ wsX8_threadsWithWorkOn RX8 D tc := ⟨hx, hb, hts, hown, hK⟩
  have hinX8 : ∀ w ∈ wsX80, w ∈ wsX8_threadsWithWorkOn := by decide +kernel
  have hinX7 : ∀ w ∈ wsX70, w ∈ wsX8_threadsWithWorkOn := by decide +kernel
  have hl := lv_entry ([.ref p0, .int p1]) (n := 7) (Nat.le_of_ble_eq_true rfl)
  rw [lg_entry_eq]
  generalize (lg_sl ([.ref p0, .int p1]) ++ List.replicate (7 - (lg_sl ([.ref p0, .int p1])).length) Slot.unset).toArray = ls at hl ⊢
  have hl : lv_has ls 7 [(0, .ref p0), (1, .int p1)] := hl
  refine lv_iconst (v := 0) hx hb dX8_threadsWithWorkOn_0 (by decide) ?_
  refine lv_istore_n (lv' := [(2, .int 0), (0, .ref p0), (1, .int p1)]) hx hb dX8_threadsWithWorkOn_1 rfl hl (by decide) rfl (fun ls hl => ?_)
  refine lv_aload_n hx hb dX8_threadsWithWorkOn_2 rfl (lv_at hl 1 rfl) ?_
  refine z_get (k := 10) (j := 2) hM hI hk0 rfl rfl hinX8 rfl (by decide) (by decide +kernel) (fun _ h9 => h9) dX8_threadsWithWorkOn_3 (fun v1 hv2 => ?_)
  obtain ⟨hg4, i3, rfl, hr5⟩ := hv2
  refine lv_astore_n (lv' := [(3, .ref i3), (2, .int 0), (0, .ref p0), (1, .int p1)]) hx hb dX8_threadsWithWorkOn_6 rfl hl (by decide) rfl (fun ls hl => ?_)
  refine lv_aload_n hx hb dX8_threadsWithWorkOn_7 rfl (lv_at hl 0 rfl) ?_
  refine z_alen (v := 8) hM hI hr5 rfl rfl rfl (by decide) dX8_threadsWithWorkOn_8 ?_
  refine lv_istore (lv' := [(4, .int 8), (3, .ref i3), (2, .int 0), (0, .ref p0), (1, .int p1)]) hx hb dX8_threadsWithWorkOn_9 hl (by decide) rfl (fun ls hl => ?_)
  refine lv_iconst (v := 0) hx hb dX8_threadsWithWorkOn_11 (by decide) ?_
  refine lv_istore (lv' := [(5, .int 0), (4, .int 8), (3, .ref i3), (2, .int 0), (0, .ref p0), (1, .int p1)]) hx hb dX8_threadsWithWorkOn_12 hl (by decide) rfl (fun ls hl => ?_)
  have hL14 : ∀ (n : Nat) (x6 : Int32)  (i7 : Nat) (hi : i7 ≤ 8) (hn : 8 - i7 < n)   (ls : Array Slot) (hl : lv_has ls 7 [(4, .int 8), (3, .ref i3), (2, .int x6), (0, .ref p0), (1, .int p1), (5, .int ((nI i7)))]), W p l e (headSpec wsX8_threadsWithWorkOn ({ frames := 0, cells := 0, slots := 0, locals := 0 })).room s m ([.ref p0, .int p1] : List Value).toArray below meth c s.heap [] 0 0 (MQ below (vp_Si (fun r : Int32 => True)) ([.ref p0, .int p1] : List Value).toArray s 0 0 (fun _ => False)) (F0 m 14 ls []) := by
    intro n
    induction n with
    | zero => intro x6 i7 hi hn ls hl; exact absurd hn (Nat.not_lt_zero _)
    | succ n ih =>
      intro x6 i7 hi hn ls hl
      refine lv_iload hx hb dX8_threadsWithWorkOn_14 (lv_at hl 5 rfl) ?_
      refine lv_iload hx hb dX8_threadsWithWorkOn_16 (lv_at hl 0 rfl) ?_
      refine lv_icmp_ge (tgt := 58) hx hb dX8_threadsWithWorkOn_18 (by decide) (fun c8 => ?_) (fun c8 => ?_)
      · skip
        have hgec8 : 8 ≤ i7 := z_ge (by omega) (by omega) c8
        refine lv_iload_n hx hb dX8_threadsWithWorkOn_58 rfl (lv_at hl 2 rfl) ?_
        exact W.iret (v := x6) hx hb hr (fun t ht hW => ⟨_, rfl, trivial, ht⟩) (fun q h => by cases h) dX8_threadsWithWorkOn_59
      · skip
        have hltc8 : i7 < 8 := z_lt (by omega) c8
        refine lv_aload_n hx hb dX8_threadsWithWorkOn_21 rfl (lv_at hl 1 rfl) ?_
        refine lv_iload hx hb dX8_threadsWithWorkOn_22 (lv_at hl 5 rfl) ?_
        refine z_aald hM hI hr5 rfl rfl rfl (vp_in_nI (by omega) (by omega)) dX8_threadsWithWorkOn_24 (fun x9 hv10 => ?_)
        have hL52 : ∀ (x14 : Int32)    (ls : Array Slot) (hl : lv_has ls 7 [(4, .int 8), (3, .ref i3), (2, .int x14), (0, .ref p0), (1, .int p1), (5, .int ((nI i7)))]), W p l e (headSpec wsX8_threadsWithWorkOn ({ frames := 0, cells := 0, slots := 0, locals := 0 })).room s m ([.ref p0, .int p1] : List Value).toArray below meth c s.heap [] 0 0 (MQ below (vp_Si (fun r : Int32 => True)) ([.ref p0, .int p1] : List Value).toArray s 0 0 (fun _ => False)) (F0 m 52 ls []) := by
          intro x14 ls hl
          refine lv_iinc (v := nI (i7 + 1)) (lv' := [(5, .int ((nI (i7 + 1)))), (4, .int 8), (3, .ref i3), (2, .int x14), (0, .ref p0), (1, .int p1)]) hx hb dX8_threadsWithWorkOn_52 hl (k := 5) rfl (z_inc i7) (by decide) rfl (fun ls hl => ?_)
          refine lv_goto (tgt := 14) hx hb dX8_threadsWithWorkOn_55 (by decide) ?_
          exact ih x14 (i7 + 1) (by first | omega | (simp only [] at *; omega)) (by first | omega | (simp only [] at *; omega)) ls (lv_sub hl [1, 2, 3, 4, 5, 0] rfl)
        obtain ⟨hghv10, hn13 | ⟨r11, hn13, hr12⟩⟩ := hv10
        · rw [hn13]
          rw [hn13] at hghv10
          refine lv_astoreN (lv' := [(6, .null), (4, .int 8), (3, .ref i3), (2, .int x6), (0, .ref p0), (1, .int p1), (5, .int ((nI i7)))]) hx hb dX8_threadsWithWorkOn_25 hl (by decide) rfl (fun ls hl => ?_)
          refine lv_aloadN hx hb dX8_threadsWithWorkOn_27 (lv_at hl 0 rfl) ?_
          refine lv_ifnullN (tgt := 52) hx hb dX8_threadsWithWorkOn_29 (by decide) ?_
          exact hL52 x6 ls (lv_sub hl [1, 2, 3, 4, 5, 6] rfl)
        · rw [hn13]
          rw [hn13] at hghv10
          refine lv_astore (lv' := [(6, .ref r11), (4, .int 8), (3, .ref i3), (2, .int x6), (0, .ref p0), (1, .int p1), (5, .int ((nI i7)))]) hx hb dX8_threadsWithWorkOn_25 hl (by decide) rfl (fun ls hl => ?_)
          refine lv_aload hx hb dX8_threadsWithWorkOn_27 (lv_at hl 0 rfl) ?_
          refine lv_ifnull hx hb dX8_threadsWithWorkOn_29 ?_
          refine lv_aload hx hb dX8_threadsWithWorkOn_32 (lv_at hl 0 rfl) ?_
          refine z_get (k := 9) (j := 1) hM hI hr12 rfl rfl hinX7 rfl (by decide) (by decide +kernel) (fun _ h9 => h9) dX8_threadsWithWorkOn_34 (fun v15 hv16 => ?_)
          obtain ⟨hg18, i17, rfl⟩ := hv16
          refine lv_iload_n hx hb dX8_threadsWithWorkOn_37 rfl (lv_at hl 5 rfl) ?_
          refine lv_icmp_ne (tgt := 52) hx hb dX8_threadsWithWorkOn_38 (by decide) (fun c19 => ?_) (fun c19 => ?_)
          · skip
            exact hL52 x6 ls (lv_sub hl [1, 2, 3, 4, 5, 6] rfl)
          · skip
            refine lv_aload hx hb dX8_threadsWithWorkOn_41 (lv_at hl 0 rfl) ?_
            refine z_get (k := 9) (j := 2) hM hI hr12 rfl rfl hinX7 rfl (by decide) (by decide +kernel) (fun _ h9 => h9) dX8_threadsWithWorkOn_43 (fun v20 hv21 => ?_)
            obtain ⟨i22, rfl⟩ := hv21
            refine lv_if_le (tgt := 52) hx hb dX8_threadsWithWorkOn_46 (by decide) (fun c23 => ?_) (fun c23 => ?_)
            · skip
              exact hL52 x6 ls (lv_sub hl [1, 2, 3, 4, 5, 6] rfl)
            · skip
              obtain ⟨v24, e25⟩ : ∃ y : Int32, y = x6 + Int32.ofInt (1) := ⟨_, rfl⟩
              refine lv_iinc (v := v24) (lv' := [(2, .int v24), (6, .ref r11), (4, .int 8), (3, .ref i3), (0, .ref p0), (1, .int p1), (5, .int ((nI i7)))]) hx hb dX8_threadsWithWorkOn_49 hl (k := 3) rfl e25.symm (by decide) rfl (fun ls hl => ?_)
              exact hL52 v24 ls (lv_sub hl [2, 3, 0, 4, 5, 6] rfl)
  exact hL14 (8 + 1) 0 0 (by first | omega | (simp only [] at *; omega)) (by first | omega | (simp only [] at *; omega)) ls (lv_sub hl [1, 2, 3, 4, 5, 0] rfl)

set_option maxHeartbeats 4000000 in
set_option maxRecDepth 100000 in
theorem c_X8_chillThreadsOn (l : Launch) (D : va_G) (tc : Nat → ClassId) (z0 : Nat) (L : List Nat) (κ : Nat → Nat) (g : Nat → Nat → Value) (sz : Nat) (p0 : Nat) (hk0 : κ p0 = 10) (p1 : Int32) : Met l yX8_chillThreadsOn wsX8_chillThreadsOn ({ frames := 0, cells := 0, slots := 0, locals := 0 }) (zPc D tc z0 [.ref p0, .int p1] [] (L, κ, g) sz) (va_Qv (fun (u : zS) => u = (L, κ, g)) (fun (u : zS) (t : State) => zB D tc (zA [] L sz) [] u t) (zA [] L sz)) 0 0 (zA [] L sz) := by
  refine Met.ofW (cc := cX8_chillThreadsOn) (maxL := 6) (ret := none) (by decide) rfl ?_
  intro p e s m args below meth c s₁ B hml hv
  obtain ⟨rfl, rfl, hK, hE, hI⟩ := hv.opn
  have hx := B.exec
  have hb := B.bytes
  have hr := B.returns
  have hts := atoms_spec (ws := wsX8_chillThreadsOn) B.pre
  have hown : s.vm.findClass RX8 = some m.cls := findClass_of_methodNamed B.named
  have hlocks := B.notSynchronized
  have hM : zM p s m c cX8_chillThreadsOn _ wsX8_chillThreadsOn RX8 D tc := ⟨hx, hb, hts, hown, hK⟩
  have hinX8 : ∀ w ∈ wsX80, w ∈ wsX8_chillThreadsOn := by decide +kernel
  have hinX7 : ∀ w ∈ wsX70, w ∈ wsX8_chillThreadsOn := by decide +kernel
  have hl := lv_entry ([.ref p0, .int p1]) (n := 6) (Nat.le_of_ble_eq_true rfl)
  rw [lg_entry_eq]
  generalize (lg_sl ([.ref p0, .int p1]) ++ List.replicate (6 - (lg_sl ([.ref p0, .int p1])).length) Slot.unset).toArray = ls at hl ⊢
  have hl : lv_has ls 6 [(0, .ref p0), (1, .int p1)] := hl
  refine lv_aload_n hx hb dX8_chillThreadsOn_0 rfl (lv_at hl 0 rfl) ?_
  refine z_get (k := 10) (j := 2) hM hI hk0 rfl rfl hinX8 rfl (by decide) (by decide +kernel) (fun _ h9 => h9) dX8_chillThreadsOn_1 (fun v1 hv2 => ?_)
  obtain ⟨hg4, i3, rfl, hr5⟩ := hv2
  refine lv_astore_n (lv' := [(2, .ref i3), (0, .ref p0), (1, .int p1)]) hx hb dX8_chillThreadsOn_4 rfl hl (by decide) rfl (fun ls hl => ?_)
  refine lv_aload_n hx hb dX8_chillThreadsOn_5 rfl (lv_at hl 0 rfl) ?_
  refine z_alen (v := 8) hM hI hr5 rfl rfl rfl (by decide) dX8_chillThreadsOn_6 ?_
  refine lv_istore_n (lv' := [(3, .int 8), (2, .ref i3), (0, .ref p0), (1, .int p1)]) hx hb dX8_chillThreadsOn_7 rfl hl (by decide) rfl (fun ls hl => ?_)
  refine lv_iconst (v := 0) hx hb dX8_chillThreadsOn_8 (by decide) ?_
  refine lv_istore (lv' := [(4, .int 0), (3, .int 8), (2, .ref i3), (0, .ref p0), (1, .int p1)]) hx hb dX8_chillThreadsOn_9 hl (by decide) rfl (fun ls hl => ?_)
  have hL11 : ∀ (n : Nat) (H : Heap) (locs : List Loc)   (i6 : Nat) (hi : i6 ≤ 8) (hn : 8 - i6 < n)   (hI : zI D tc (zA [] L s.heap.size) s.heap [] L κ g H locs) (ls : Array Slot) (hl : lv_has ls 6 [(3, .int 8), (2, .ref i3), (0, .ref p0), (1, .int p1), (4, .int ((nI i6)))]), W p l e (headSpec wsX8_chillThreadsOn ({ frames := 0, cells := 0, slots := 0, locals := 0 })).room s m ([.ref p0, .int p1] : List Value).toArray below meth c H locs 0 0 (MQ below (va_Qv (fun (u : zS) => u = (L, κ, g)) (fun (u : zS) (t : State) => zB D tc (zA [] L s.heap.size) [] u t) (zA [] L s.heap.size)) ([.ref p0, .int p1] : List Value).toArray s 0 0 (zA [] L s.heap.size)) (F0 m 11 ls []) := by
    intro n
    induction n with
    | zero => intro H locs i6 hi hn hI ls hl; exact absurd hn (Nat.not_lt_zero _)
    | succ n ih =>
      intro H locs i6 hi hn hI ls hl
      refine lv_iload hx hb dX8_chillThreadsOn_11 (lv_at hl 4 rfl) ?_
      refine lv_iload_n hx hb dX8_chillThreadsOn_13 rfl (lv_at hl 0 rfl) ?_
      refine lv_icmp_ge (tgt := 49) hx hb dX8_chillThreadsOn_14 (by decide) (fun c7 => ?_) (fun c7 => ?_)
      · skip
        have hgec7 : 8 ≤ i6 := z_ge (by omega) (by omega) c7
        exact W.vret hx hb hr (fun t ht hW => ⟨⟨(L, κ, g), rfl, rfl, z_end hK hI ht hW⟩, z_F hI ht⟩) (z_locs hI) dX8_chillThreadsOn_49
      · skip
        have hltc7 : i6 < 8 := z_lt (by omega) c7
        refine lv_aload_n hx hb dX8_chillThreadsOn_17 rfl (lv_at hl 1 rfl) ?_
        refine lv_iload hx hb dX8_chillThreadsOn_18 (lv_at hl 4 rfl) ?_
        refine z_aald hM hI hr5 rfl rfl rfl (vp_in_nI (by omega) (by omega)) dX8_chillThreadsOn_20 (fun x8 hv9 => ?_)
        have hL43 : ∀ (H : Heap) (locs : List Loc)     (hI : zI D tc (zA [] L s.heap.size) s.heap [] L κ g H locs) (ls : Array Slot) (hl : lv_has ls 6 [(3, .int 8), (2, .ref i3), (0, .ref p0), (1, .int p1), (4, .int ((nI i6)))]), W p l e (headSpec wsX8_chillThreadsOn ({ frames := 0, cells := 0, slots := 0, locals := 0 })).room s m ([.ref p0, .int p1] : List Value).toArray below meth c H locs 0 0 (MQ below (va_Qv (fun (u : zS) => u = (L, κ, g)) (fun (u : zS) (t : State) => zB D tc (zA [] L s.heap.size) [] u t) (zA [] L s.heap.size)) ([.ref p0, .int p1] : List Value).toArray s 0 0 (zA [] L s.heap.size)) (F0 m 43 ls []) := by
          intro H locs hI ls hl
          refine lv_iinc (v := nI (i6 + 1)) (lv' := [(4, .int ((nI (i6 + 1)))), (3, .int 8), (2, .ref i3), (0, .ref p0), (1, .int p1)]) hx hb dX8_chillThreadsOn_43 hl (k := 4) rfl (z_inc i6) (by decide) rfl (fun ls hl => ?_)
          refine lv_goto (tgt := 11) hx hb dX8_chillThreadsOn_46 (by decide) ?_
          exact ih _ _ (i6 + 1) (by first | omega | (simp only [] at *; omega)) (by first | omega | (simp only [] at *; omega)) hI ls (lv_sub hl [1, 2, 3, 4, 0] rfl)
        obtain ⟨hghv9, hn12 | ⟨r10, hn12, hr11⟩⟩ := hv9
        · rw [hn12]
          rw [hn12] at hghv9
          refine lv_astoreN (lv' := [(5, .null), (3, .int 8), (2, .ref i3), (0, .ref p0), (1, .int p1), (4, .int ((nI i6)))]) hx hb dX8_chillThreadsOn_21 hl (by decide) rfl (fun ls hl => ?_)
          refine lv_aloadN hx hb dX8_chillThreadsOn_23 (lv_at hl 0 rfl) ?_
          refine lv_ifnullN (tgt := 43) hx hb dX8_chillThreadsOn_25 (by decide) ?_
          exact hL43 _ _ hI ls (lv_sub hl [1, 2, 3, 4, 5] rfl)
        · rw [hn12]
          rw [hn12] at hghv9
          refine lv_astore (lv' := [(5, .ref r10), (3, .int 8), (2, .ref i3), (0, .ref p0), (1, .int p1), (4, .int ((nI i6)))]) hx hb dX8_chillThreadsOn_21 hl (by decide) rfl (fun ls hl => ?_)
          refine lv_aload hx hb dX8_chillThreadsOn_23 (lv_at hl 0 rfl) ?_
          refine lv_ifnull hx hb dX8_chillThreadsOn_25 ?_
          refine lv_aload hx hb dX8_chillThreadsOn_28 (lv_at hl 0 rfl) ?_
          refine z_get (k := 9) (j := 1) hM hI hr11 rfl rfl hinX7 rfl (by decide) (by decide +kernel) (fun _ h9 => h9) dX8_chillThreadsOn_30 (fun v13 hv14 => ?_)
          obtain ⟨hg16, i15, rfl⟩ := hv14
          refine lv_iload_n hx hb dX8_chillThreadsOn_33 rfl (lv_at hl 4 rfl) ?_
          refine lv_icmp_ne (tgt := 43) hx hb dX8_chillThreadsOn_34 (by decide) (fun c17 => ?_) (fun c17 => ?_)
          · skip
            exact hL43 _ _ hI ls (lv_sub hl [1, 2, 3, 4, 5] rfl)
          · skip
            refine lv_aload hx hb dX8_chillThreadsOn_37 (lv_at hl 0 rfl) ?_
            refine lv_iconst (v := 5) hx hb dX8_chillThreadsOn_39 (by decide) ?_
            refine z_put (g' := g) (k := 9) (j := 3) hM hI hr11 rfl rfl hinX7 tyX7 tyX7_ok nmX7 rfl (by decide) (by decide +kernel) (fun _ h9 => h9) rfl rfl rfl rfl ⟨_, rfl⟩ (fun _ _ _ => rfl) dX8_chillThreadsOn_40 (fun H locs hI => ?_)
            exact hL43 _ _ hI ls (lv_sub hl [1, 2, 3, 4, 5] rfl)
  exact hL11 (8 + 1) _ _ 0 (by first | omega | (simp only [] at *; omega)) (by first | omega | (simp only [] at *; omega)) hI ls (lv_sub hl [1, 2, 3, 4, 0] rfl)

set_option maxHeartbeats 4000000 in
set_option maxRecDepth 100000 in
theorem c_X8_goOnWaking (l : Launch) (D : va_G) (tc : Nat → ClassId) (z0 : Nat) (L : List Nat) (κ : Nat → Nat) (g : Nat → Nat → Value) (sz : Nat) (p0 : Nat) (hk0 : κ p0 = 10) (p1 : Nat) (hk1 : κ p1 = 5) : Met l yX8_goOnWaking wsX8_goOnWaking ({ frames := 1, cells := 0, slots := 0, locals := 25 }) (zPc D tc z0 [.ref p0, .ref p1] [] (L, κ, g) sz) (va_Qv (fun (u : zS) => u = (L, κ, g)) (fun (u : zS) (t : State) => zB D tc (zA [] L sz) [] u t) (zA [] L sz)) 0 0 (zA [] L sz) := by
  refine Met.ofW (cc := cX8_goOnWaking) (maxL := 2) (ret := none) (by decide) rfl ?_
  intro p e s m args below meth c s₁ B hml hv
  obtain ⟨rfl, rfl, hK, hE, hI⟩ := hv.opn
  have hx := B.exec
  have hb := B.bytes
  have hr := B.returns
  have hts := atoms_spec (ws := wsX8_goOnWaking) B.pre
  have hown : s.vm.findClass RX8 = some m.cls := findClass_of_methodNamed B.named
  have hlocks := B.notSynchronized
  have hM : zM p s m c cX8_goOnWaking _ wsX8_goOnWaking RX8 D tc := ⟨hx, hb, hts, hown, hK⟩
  have hinX3 : ∀ w ∈ wsX30, w ∈ wsX8_goOnWaking := by decide +kernel
  have hl := lv_entry ([.ref p0, .ref p1]) (n := 2) (Nat.le_of_ble_eq_true rfl)
  rw [lg_entry_eq]
  generalize (lg_sl ([.ref p0, .ref p1]) ++ List.replicate (2 - (lg_sl ([.ref p0, .ref p1])).length) Slot.unset).toArray = ls at hl ⊢
  have hl : lv_has ls 2 [(0, .ref p0), (1, .ref p1)] := hl
  refine lv_aload_n hx hb dX8_goOnWaking_0 rfl (lv_at hl 1 rfl) ?_
  refine lv_dup hx hb dX8_goOnWaking_1 rfl ?_
  refine z_get (k := 5) (j := 11) hM hI hk1 rfl rfl hinX3 rfl (by decide) (by decide +kernel) (fun _ h9 => h9) dX8_goOnWaking_2 (fun v1 hv2 => ?_)
  obtain ⟨i3, rfl⟩ := hv2
  refine lv_iconst (v := 1) hx hb dX8_goOnWaking_5 (by decide) ?_
  refine lv_isub hx hb dX8_goOnWaking_6 ?_
  refine lv_topi (fun v4 e5 => ?_)
  refine z_put (g' := g) (k := 5) (j := 11) hM hI hk1 rfl rfl hinX3 tyX3 tyX3_ok nmX3 rfl (by decide) (by decide +kernel) (fun _ h9 => h9) rfl rfl rfl rfl ⟨_, rfl⟩ (fun _ _ _ => rfl) dX8_goOnWaking_7 (fun H locs hI => ?_)
  refine lv_aload_n hx hb dX8_goOnWaking_10 rfl (lv_at hl 1 rfl) ?_
  refine z_get (k := 5) (j := 11) hM hI hk1 rfl rfl hinX3 rfl (by decide) (by decide +kernel) (fun _ h9 => h9) dX8_goOnWaking_11 (fun v6 hv7 => ?_)
  obtain ⟨i8, rfl⟩ := hv7
  refine lv_if_le (tgt := 18) hx hb dX8_goOnWaking_14 (by decide) (fun c9 => ?_) (fun c9 => ?_)
  · skip
    refine lv_aload_n hx hb dX8_goOnWaking_18 rfl (lv_at hl 1 rfl) ?_
    refine lv_bipush (v := 97) hx hb dX8_goOnWaking_19 (by decide) ?_
    refine z_put (g' := g) (k := 5) (j := 9) hM hI hk1 rfl rfl hinX3 tyX3 tyX3_ok nmX3 rfl (by decide) (by decide +kernel) (fun _ h9 => h9) rfl rfl (by decide) (by decide) ⟨_, rfl, by decide⟩ (fun _ _ _ => rfl) dX8_goOnWaking_21 (fun H locs hI => ?_)
    refine lv_aload_n hx hb dX8_goOnWaking_24 rfl (lv_at hl 1 rfl) ?_
    refine z_get (k := 5) (j := 12) hM hI hk1 rfl rfl hinX3 rfl (by decide) (by decide +kernel) (fun _ h9 => h9) dX8_goOnWaking_25 (fun v10 hv11 => ?_)
    obtain ⟨i12, rfl, hz13⟩ := zv_b hv11
    refine lv_if_eq (tgt := 39) hx hb dX8_goOnWaking_28 (by decide) (fun c14 => ?_) (fun c14 => ?_)
    · skip
      exact W.vret hx hb hr (fun t ht hW => ⟨⟨(L, κ, g), rfl, rfl, z_end hK hI ht hW⟩, z_F hI ht⟩) (z_locs hI) dX8_goOnWaking_39
    · skip
      refine lv_aload_n hx hb dX8_goOnWaking_31 rfl (lv_at hl 0 rfl) ?_
      refine lv_aload_n hx hb dX8_goOnWaking_32 rfl (lv_at hl 1 rfl) ?_
      refine z_get (k := 5) (j := 0) hM hI hk1 rfl rfl hinX3 rfl (by decide) (by decide +kernel) (fun _ h9 => h9) dX8_goOnWaking_33 (fun v15 hv16 => ?_)
      obtain ⟨i17, rfl⟩ := hv16
      refine z_cv hI (va_runV (As := [.int i17]) (rest := []) ⟨hx, hb, hml, hown, hts⟩ (c_X8_chillThreadsOn l _ _ _ _ _ _ _ p0 hk0 i17) (cwV 1 hts gX8_goOnWaking_X8_chillThreadsOn rfl rfl rfl (by decide +kernel) ⟨Nat.le_of_ble_eq_true rfl, Nat.le_of_ble_eq_true rfl⟩) (z_preV hK hE hI [] rfl rfl (z_recv hK hI hk0 rfl rfl)) rfl rfl hl.1 rfl (lv_room (Nat.le_of_ble_eq_true rfl)) dX8_goOnWaking_36 ⟨Nat.le_of_ble_eq_true rfl, Nat.le_of_ble_eq_true rfl⟩) (fun u H locs hw19 hI => ?_)
      obtain rfl := hw19
      exact W.vret hx hb hr (fun t ht hW => ⟨⟨(L, κ, g), rfl, rfl, z_end hK hI ht hW⟩, z_F hI ht⟩) (z_locs hI) dX8_goOnWaking_39
  · skip
    exact W.vret hx hb hr (fun t ht hW => ⟨⟨(L, κ, g), rfl, rfl, z_end hK hI ht hW⟩, z_F hI ht⟩) (z_locs hI) dX8_goOnWaking_17

set_option maxHeartbeats 4000000 in
set_option maxRecDepth 100000 in
theorem c_X8_beginCores (l : Launch) (D : va_G) (tc : Nat → ClassId) (z0 : Nat) (L : List Nat) (κ : Nat → Nat) (g : Nat → Nat → Value) (sz : Nat) (p0 : Nat) (hk0 : κ p0 = 10) : Met l yX8_beginCores wsX8_beginCores ({ frames := 2, cells := 0, slots := 0, locals := 42 }) (zPc D tc z0 [.ref p0] [] (L, κ, g) sz) (va_Qv (fun (u : zS) => u = (L, κ, g)) (fun (u : zS) (t : State) => zB D tc (zA [] L sz) [] u t) (zA [] L sz)) 0 0 (zA [] L sz) := by
  refine Met.ofW (cc := cX8_beginCores) (maxL := 6) (ret := none) (by decide) rfl ?_
  intro p e s m args below meth c s₁ B hml hv
  obtain ⟨rfl, rfl, hK, hE, hI⟩ := hv.opn
  have hx := B.exec
  have hb := B.bytes
  have hr := B.returns
  have hts := atoms_spec (ws := wsX8_beginCores) B.pre
  have hown : s.vm.findClass RX8 = some m.cls := findClass_of_methodNamed B.named
  have hlocks := B.notSynchronized
  have hM : zM p s m c cX8_beginCores _ wsX8_beginCores RX8 D tc := ⟨hx, hb, hts, hown, hK⟩
  have hinX8 : ∀ w ∈ wsX80, w ∈ wsX8_beginCores := by decide +kernel
  have hinX3 : ∀ w ∈ wsX30, w ∈ wsX8_beginCores := by decide +kernel
  have hl := lv_entry ([.ref p0]) (n := 6) (Nat.le_of_ble_eq_true rfl)
  rw [lg_entry_eq]
  generalize (lg_sl ([.ref p0]) ++ List.replicate (6 - (lg_sl ([.ref p0])).length) Slot.unset).toArray = ls at hl ⊢
  have hl : lv_has ls 6 [(0, .ref p0)] := hl
  refine lv_aload_n hx hb dX8_beginCores_0 rfl (lv_at hl 0 rfl) ?_
  refine z_get (k := 10) (j := 8) hM hI hk0 rfl rfl hinX8 rfl (by decide) (by decide +kernel) (fun _ h9 => h9) dX8_beginCores_1 (fun v1 hv2 => ?_)
  obtain ⟨hg4, i3, rfl⟩ := hv2
  refine lv_iconst (v := 4) hx hb dX8_beginCores_4 (by decide) ?_
  refine lv_irem hx hb dX8_beginCores_5 (by decide) ?_
  refine lv_topi (fun v5 e6 => ?_)
  have hL14 : ∀ (H : Heap) (locs : List Loc) (y7 : Int32)    (hI : zI D tc (zA [] L s.heap.size) s.heap [] L κ g H locs) (ls : Array Slot) (hl : lv_has ls 6 [(0, .ref p0)]), W p l e (headSpec wsX8_beginCores ({ frames := 2, cells := 0, slots := 0, locals := 42 })).room s m ([.ref p0] : List Value).toArray below meth c H locs 0 0 (MQ below (va_Qv (fun (u : zS) => u = (L, κ, g)) (fun (u : zS) (t : State) => zB D tc (zA [] L s.heap.size) [] u t) (zA [] L s.heap.size)) ([.ref p0] : List Value).toArray s 0 0 (zA [] L s.heap.size)) (F0 m 14 ls [.int y7]) := by
    intro H locs y7 hI ls hl
    refine lv_istore_n (lv' := [(1, .int y7), (0, .ref p0)]) hx hb dX8_beginCores_14 rfl hl (by decide) rfl (fun ls hl => ?_)
    refine lv_aload_n hx hb dX8_beginCores_15 rfl (lv_at hl 1 rfl) ?_
    refine z_get (k := 10) (j := 1) hM hI hk0 rfl rfl hinX8 rfl (by decide) (by decide +kernel) (fun _ h9 => h9) dX8_beginCores_16 (fun v8 hv9 => ?_)
    obtain ⟨hg11, i10, rfl, hr12⟩ := hv9
    refine lv_astore_n (lv' := [(2, .ref i10), (1, .int y7), (0, .ref p0)]) hx hb dX8_beginCores_19 rfl hl (by decide) rfl (fun ls hl => ?_)
    refine lv_aload_n hx hb dX8_beginCores_20 rfl (lv_at hl 0 rfl) ?_
    refine z_alen (v := 6) hM hI hr12 rfl rfl rfl (by decide) dX8_beginCores_21 ?_
    refine lv_istore_n (lv' := [(3, .int 6), (2, .ref i10), (1, .int y7), (0, .ref p0)]) hx hb dX8_beginCores_22 rfl hl (by decide) rfl (fun ls hl => ?_)
    refine lv_iconst (v := 0) hx hb dX8_beginCores_23 (by decide) ?_
    refine lv_istore (lv' := [(4, .int 0), (3, .int 6), (2, .ref i10), (1, .int y7), (0, .ref p0)]) hx hb dX8_beginCores_24 hl (by decide) rfl (fun ls hl => ?_)
    have hL26 : ∀ (n : Nat) (H : Heap) (locs : List Loc)   (i13 : Nat) (hi : i13 ≤ 6) (hn : 6 - i13 < n)   (hI : zI D tc (zA [] L s.heap.size) s.heap [] L κ g H locs) (ls : Array Slot) (hl : lv_has ls 6 [(3, .int 6), (2, .ref i10), (1, .int y7), (0, .ref p0), (4, .int ((nI i13)))]), W p l e (headSpec wsX8_beginCores ({ frames := 2, cells := 0, slots := 0, locals := 42 })).room s m ([.ref p0] : List Value).toArray below meth c H locs 0 0 (MQ below (va_Qv (fun (u : zS) => u = (L, κ, g)) (fun (u : zS) (t : State) => zB D tc (zA [] L s.heap.size) [] u t) (zA [] L s.heap.size)) ([.ref p0] : List Value).toArray s 0 0 (zA [] L s.heap.size)) (F0 m 26 ls []) := by
      intro n
      induction n with
      | zero => intro H locs i13 hi hn hI ls hl; exact absurd hn (Nat.not_lt_zero _)
      | succ n ih =>
        intro H locs i13 hi hn hI ls hl
        refine lv_iload hx hb dX8_beginCores_26 (lv_at hl 4 rfl) ?_
        refine lv_iload_n hx hb dX8_beginCores_28 rfl (lv_at hl 0 rfl) ?_
        refine lv_icmp_ge (tgt := 85) hx hb dX8_beginCores_29 (by decide) (fun c14 => ?_) (fun c14 => ?_)
        · skip
          have hgec14 : 6 ≤ i13 := z_ge (by omega) (by omega) c14
          exact W.vret hx hb hr (fun t ht hW => ⟨⟨(L, κ, g), rfl, rfl, z_end hK hI ht hW⟩, z_F hI ht⟩) (z_locs hI) dX8_beginCores_85
        · skip
          have hltc14 : i13 < 6 := z_lt (by omega) c14
          refine lv_aload_n hx hb dX8_beginCores_32 rfl (lv_at hl 1 rfl) ?_
          refine lv_iload hx hb dX8_beginCores_33 (lv_at hl 4 rfl) ?_
          refine z_aald hM hI hr12 rfl rfl rfl (vp_in_nI (by omega) (by omega)) dX8_beginCores_35 (fun x15 hv16 => ?_)
          have hL79 : ∀ (H : Heap) (locs : List Loc)     (hI : zI D tc (zA [] L s.heap.size) s.heap [] L κ g H locs) (ls : Array Slot) (hl : lv_has ls 6 [(3, .int 6), (2, .ref i10), (1, .int y7), (0, .ref p0), (4, .int ((nI i13)))]), W p l e (headSpec wsX8_beginCores ({ frames := 2, cells := 0, slots := 0, locals := 42 })).room s m ([.ref p0] : List Value).toArray below meth c H locs 0 0 (MQ below (va_Qv (fun (u : zS) => u = (L, κ, g)) (fun (u : zS) (t : State) => zB D tc (zA [] L s.heap.size) [] u t) (zA [] L s.heap.size)) ([.ref p0] : List Value).toArray s 0 0 (zA [] L s.heap.size)) (F0 m 79 ls []) := by
            intro H locs hI ls hl
            refine lv_iinc (v := nI (i13 + 1)) (lv' := [(4, .int ((nI (i13 + 1)))), (3, .int 6), (2, .ref i10), (1, .int y7), (0, .ref p0)]) hx hb dX8_beginCores_79 hl (k := 4) rfl (z_inc i13) (by decide) rfl (fun ls hl => ?_)
            refine lv_goto (tgt := 26) hx hb dX8_beginCores_82 (by decide) ?_
            exact ih _ _ (i13 + 1) (by first | omega | (simp only [] at *; omega)) (by first | omega | (simp only [] at *; omega)) hI ls (lv_sub hl [1, 2, 3, 4, 0] rfl)
          obtain ⟨hghv16, hn19 | ⟨r17, hn19, hr18⟩⟩ := hv16
          · rw [hn19]
            rw [hn19] at hghv16
            refine lv_astoreN (lv' := [(5, .null), (3, .int 6), (2, .ref i10), (1, .int y7), (0, .ref p0), (4, .int ((nI i13)))]) hx hb dX8_beginCores_36 hl (by decide) rfl (fun ls hl => ?_)
            refine lv_aloadN hx hb dX8_beginCores_38 (lv_at hl 0 rfl) ?_
            refine lv_ifnullN (tgt := 79) hx hb dX8_beginCores_40 (by decide) ?_
            exact hL79 _ _ hI ls (lv_sub hl [1, 2, 3, 4, 5] rfl)
          · rw [hn19]
            rw [hn19] at hghv16
            refine lv_astore (lv' := [(5, .ref r17), (3, .int 6), (2, .ref i10), (1, .int y7), (0, .ref p0), (4, .int ((nI i13)))]) hx hb dX8_beginCores_36 hl (by decide) rfl (fun ls hl => ?_)
            refine lv_aload hx hb dX8_beginCores_38 (lv_at hl 0 rfl) ?_
            refine lv_ifnull hx hb dX8_beginCores_40 ?_
            refine lv_aload hx hb dX8_beginCores_43 (lv_at hl 0 rfl) ?_
            refine lv_aload_n hx hb dX8_beginCores_45 rfl (lv_at hl 4 rfl) ?_
            refine lv_aload hx hb dX8_beginCores_46 (lv_at hl 0 rfl) ?_
            refine z_get (k := 5) (j := 0) hM hI hr18 rfl rfl hinX3 rfl (by decide) (by decide +kernel) (fun _ h9 => h9) dX8_beginCores_48 (fun v20 hv21 => ?_)
            obtain ⟨i22, rfl⟩ := hv21
            refine va_csq (W.runV (As := [.int i22]) (rest := [.ref r17]) ⟨hx, hb, hml, hown, hts⟩ (c_X8_runningOn l _ _ _ _ _ _ _ p0 hk0 i22) (cwV 1 hts gX8_beginCores_X8_runningOn rfl rfl rfl (by decide +kernel) ⟨Nat.le_of_ble_eq_true rfl, Nat.le_of_ble_eq_true rfl⟩) (z_preV hK hE hI [] rfl rfl (z_recv hK hI hk0 rfl rfl)) rfl rfl hl.1 rfl (lv_room (Nat.le_of_ble_eq_true rfl)) dX8_beginCores_51 ⟨Nat.le_of_ble_eq_true rfl, Nat.le_of_ble_eq_true rfl⟩) (fun v23 hw24 => ?_)
            rcases v23 with _ | r25
            · show W p l e (headSpec wsX8_beginCores ({ frames := 2, cells := 0, slots := 0, locals := 42 })).room s m ([.ref p0] : List Value).toArray below meth c _ _ _ _ (MQ below (va_Qv (fun (u : zS) => u = (L, κ, g)) (fun (u : zS) (t : State) => zB D tc (zA [] L s.heap.size) [] u t) (zA [] L s.heap.size)) ([.ref p0] : List Value).toArray s 0 0 (zA [] L s.heap.size)) (F0 m 54 ls (.null :: [.ref r17]))
              skip
              refine lv_ifnullN (tgt := 61) hx hb dX8_beginCores_54 (by decide) ?_
              refine lv_iconst (v := 0) hx hb dX8_beginCores_61 (by decide) ?_
              refine z_cv hI (va_runV (As := [.int 0]) (rest := []) ⟨hx, hb, hml, hown, hts⟩ (c_X3_noteBusy l _ _ _ _ _ _ _ r17 hr18 0 (by first | assumption | exact Or.inl rfl | exact Or.inr rfl | decide)) (cwV 1 hts gX8_beginCores_X3_noteBusy rfl rfl rfl (by decide +kernel) ⟨Nat.le_of_ble_eq_true rfl, Nat.le_of_ble_eq_true rfl⟩) (z_preV hK hE hI [] rfl rfl (z_recv hK hI hr18 rfl rfl)) rfl rfl hl.1 rfl (lv_room (Nat.le_of_ble_eq_true rfl)) dX8_beginCores_62 ⟨Nat.le_of_ble_eq_true rfl, Nat.le_of_ble_eq_true rfl⟩) (fun u H locs hw28 hI => ?_)
              obtain rfl := hw28
              refine lv_iload_n hx hb dX8_beginCores_65 rfl (lv_at hl 3 rfl) ?_
              have hL74 : ∀ (H : Heap) (locs : List Loc)     (hI : zI D tc (zA [] L s.heap.size) s.heap [] L κ g H locs) (ls : Array Slot) (hl : lv_has ls 6 [(5, .ref r17), (3, .int 6), (2, .ref i10), (1, .int y7), (0, .ref p0), (4, .int ((nI i13)))]), W p l e (headSpec wsX8_beginCores ({ frames := 2, cells := 0, slots := 0, locals := 42 })).room s m ([.ref p0] : List Value).toArray below meth c H locs 0 0 (MQ below (va_Qv (fun (u : zS) => u = (L, κ, g)) (fun (u : zS) (t : State) => zB D tc (zA [] L s.heap.size) [] u t) (zA [] L s.heap.size)) ([.ref p0] : List Value).toArray s 0 0 (zA [] L s.heap.size)) (F0 m 74 ls []) := by
                intro H locs hI ls hl
                refine lv_aload hx hb dX8_beginCores_74 (lv_at hl 0 rfl) ?_
                refine z_cv hI (va_runV (As := []) (rest := []) ⟨hx, hb, hml, hown, hts⟩ (c_X3_tripAndWear l _ _ _ _ _ _ _ r17 hr18) (cwV 0 hts gX8_beginCores_X3_tripAndWear rfl rfl rfl (by decide +kernel) ⟨Nat.le_of_ble_eq_true rfl, Nat.le_of_ble_eq_true rfl⟩) (z_preV hK hE hI [] rfl rfl (z_recv hK hI hr18 rfl rfl)) rfl rfl hl.1 rfl (lv_room (Nat.le_of_ble_eq_true rfl)) dX8_beginCores_76 ⟨Nat.le_of_ble_eq_true rfl, Nat.le_of_ble_eq_true rfl⟩) (fun u H locs hw30 hI => ?_)
                obtain rfl := hw30
                exact hL79 _ _ hI ls (lv_sub hl [1, 2, 3, 4, 5] rfl)
              refine lv_if_eq (tgt := 74) hx hb dX8_beginCores_66 (by decide) (fun c31 => ?_) (fun c31 => ?_)
              · skip
                exact hL74 _ _ hI ls (lv_sub hl [0, 1, 2, 3, 4, 5] rfl)
              · skip
                refine lv_aload hx hb dX8_beginCores_69 (lv_at hl 0 rfl) ?_
                refine z_cv hI (va_runV (As := []) (rest := []) ⟨hx, hb, hml, hown, hts⟩ (c_X3_readSensor l _ _ _ _ _ _ _ r17 hr18) (cwV 0 hts gX8_beginCores_X3_readSensor rfl rfl rfl (by decide +kernel) ⟨Nat.le_of_ble_eq_true rfl, Nat.le_of_ble_eq_true rfl⟩) (z_preV hK hE hI [] rfl rfl (z_recv hK hI hr18 rfl rfl)) rfl rfl hl.1 rfl (lv_room (Nat.le_of_ble_eq_true rfl)) dX8_beginCores_71 ⟨Nat.le_of_ble_eq_true rfl, Nat.le_of_ble_eq_true rfl⟩) (fun u H locs hw33 hI => ?_)
                obtain rfl := hw33
                exact hL74 _ _ hI ls (lv_sub hl [0, 1, 2, 3, 4, 5] rfl)
            · show W p l e (headSpec wsX8_beginCores ({ frames := 2, cells := 0, slots := 0, locals := 42 })).room s m ([.ref p0] : List Value).toArray below meth c _ _ _ _ (MQ below (va_Qv (fun (u : zS) => u = (L, κ, g)) (fun (u : zS) (t : State) => zB D tc (zA [] L s.heap.size) [] u t) (zA [] L s.heap.size)) ([.ref p0] : List Value).toArray s 0 0 (zA [] L s.heap.size)) (F0 m 54 ls (.ref r25 :: [.ref r17]))
              have hr26 : κ r25 = 9 := hw24 _ rfl
              refine lv_ifnull hx hb dX8_beginCores_54 ?_
              refine lv_iconst (v := 1) hx hb dX8_beginCores_57 (by decide) ?_
              refine lv_goto (tgt := 62) hx hb dX8_beginCores_58 (by decide) ?_
              refine z_cv hI (va_runV (As := [.int 1]) (rest := []) ⟨hx, hb, hml, hown, hts⟩ (c_X3_noteBusy l _ _ _ _ _ _ _ r17 hr18 1 (by first | assumption | exact Or.inl rfl | exact Or.inr rfl | decide)) (cwV 1 hts gX8_beginCores_X3_noteBusy rfl rfl rfl (by decide +kernel) ⟨Nat.le_of_ble_eq_true rfl, Nat.le_of_ble_eq_true rfl⟩) (z_preV hK hE hI [] rfl rfl (z_recv hK hI hr18 rfl rfl)) rfl rfl hl.1 rfl (lv_room (Nat.le_of_ble_eq_true rfl)) dX8_beginCores_62 ⟨Nat.le_of_ble_eq_true rfl, Nat.le_of_ble_eq_true rfl⟩) (fun u H locs hw35 hI => ?_)
              obtain rfl := hw35
              refine lv_iload_n hx hb dX8_beginCores_65 rfl (lv_at hl 3 rfl) ?_
              have hL74 : ∀ (H : Heap) (locs : List Loc)     (hI : zI D tc (zA [] L s.heap.size) s.heap [] L κ g H locs) (ls : Array Slot) (hl : lv_has ls 6 [(5, .ref r17), (3, .int 6), (2, .ref i10), (1, .int y7), (0, .ref p0), (4, .int ((nI i13)))]), W p l e (headSpec wsX8_beginCores ({ frames := 2, cells := 0, slots := 0, locals := 42 })).room s m ([.ref p0] : List Value).toArray below meth c H locs 0 0 (MQ below (va_Qv (fun (u : zS) => u = (L, κ, g)) (fun (u : zS) (t : State) => zB D tc (zA [] L s.heap.size) [] u t) (zA [] L s.heap.size)) ([.ref p0] : List Value).toArray s 0 0 (zA [] L s.heap.size)) (F0 m 74 ls []) := by
                intro H locs hI ls hl
                refine lv_aload hx hb dX8_beginCores_74 (lv_at hl 0 rfl) ?_
                refine z_cv hI (va_runV (As := []) (rest := []) ⟨hx, hb, hml, hown, hts⟩ (c_X3_tripAndWear l _ _ _ _ _ _ _ r17 hr18) (cwV 0 hts gX8_beginCores_X3_tripAndWear rfl rfl rfl (by decide +kernel) ⟨Nat.le_of_ble_eq_true rfl, Nat.le_of_ble_eq_true rfl⟩) (z_preV hK hE hI [] rfl rfl (z_recv hK hI hr18 rfl rfl)) rfl rfl hl.1 rfl (lv_room (Nat.le_of_ble_eq_true rfl)) dX8_beginCores_76 ⟨Nat.le_of_ble_eq_true rfl, Nat.le_of_ble_eq_true rfl⟩) (fun u H locs hw37 hI => ?_)
                obtain rfl := hw37
                exact hL79 _ _ hI ls (lv_sub hl [1, 2, 3, 4, 5] rfl)
              refine lv_if_eq (tgt := 74) hx hb dX8_beginCores_66 (by decide) (fun c38 => ?_) (fun c38 => ?_)
              · skip
                exact hL74 _ _ hI ls (lv_sub hl [0, 1, 2, 3, 4, 5] rfl)
              · skip
                refine lv_aload hx hb dX8_beginCores_69 (lv_at hl 0 rfl) ?_
                refine z_cv hI (va_runV (As := []) (rest := []) ⟨hx, hb, hml, hown, hts⟩ (c_X3_readSensor l _ _ _ _ _ _ _ r17 hr18) (cwV 0 hts gX8_beginCores_X3_readSensor rfl rfl rfl (by decide +kernel) ⟨Nat.le_of_ble_eq_true rfl, Nat.le_of_ble_eq_true rfl⟩) (z_preV hK hE hI [] rfl rfl (z_recv hK hI hr18 rfl rfl)) rfl rfl hl.1 rfl (lv_room (Nat.le_of_ble_eq_true rfl)) dX8_beginCores_71 ⟨Nat.le_of_ble_eq_true rfl, Nat.le_of_ble_eq_true rfl⟩) (fun u H locs hw40 hI => ?_)
                obtain rfl := hw40
                exact hL74 _ _ hI ls (lv_sub hl [0, 1, 2, 3, 4, 5] rfl)
    exact hL26 (6 + 1) _ _ 0 (by first | omega | (simp only [] at *; omega)) (by first | omega | (simp only [] at *; omega)) hI ls (lv_sub hl [1, 2, 3, 4, 0] rfl)
  refine lv_if_ne (tgt := 13) hx hb dX8_beginCores_6 (by decide) (fun c41 => ?_) (fun c41 => ?_)
  · skip
    refine lv_iconst (v := 0) hx hb dX8_beginCores_13 (by decide) ?_
    exact hL14 _ _ 0 hI ls (lv_sub hl [0] rfl)
  · skip
    refine lv_iconst (v := 1) hx hb dX8_beginCores_9 (by decide) ?_
    refine lv_goto (tgt := 14) hx hb dX8_beginCores_10 (by decide) ?_
    exact hL14 _ _ 1 hI ls (lv_sub hl [0] rfl)

set_option maxHeartbeats 4000000 in
set_option maxRecDepth 100000 in
theorem c_X8_sleepAndWake (l : Launch) (D : va_G) (tc : Nat → ClassId) (z0 : Nat) (L : List Nat) (κ : Nat → Nat) (g : Nat → Nat → Value) (sz : Nat) (p0 : Nat) (hk0 : κ p0 = 10) : Met l yX8_sleepAndWake wsX8_sleepAndWake ({ frames := 2, cells := 0, slots := 0, locals := 46 }) (zPc D tc z0 [.ref p0] [] (L, κ, g) sz) (va_Qv (fun (u : zS) => u = (L, κ, g)) (fun (u : zS) (t : State) => zB D tc (zA [] L sz) [] u t) (zA [] L sz)) 0 0 (zA [] L sz) := by
  refine Met.ofW (cc := cX8_sleepAndWake) (maxL := 6) (ret := none) (by decide) rfl ?_
  intro p e s m args below meth c s₁ B hml hv
  obtain ⟨rfl, rfl, hK, hE, hI⟩ := hv.opn
  have hx := B.exec
  have hb := B.bytes
  have hr := B.returns
  have hts := atoms_spec (ws := wsX8_sleepAndWake) B.pre
  have hown : s.vm.findClass RX8 = some m.cls := findClass_of_methodNamed B.named
  have hlocks := B.notSynchronized
  have hM : zM p s m c cX8_sleepAndWake _ wsX8_sleepAndWake RX8 D tc := ⟨hx, hb, hts, hown, hK⟩
  have hinX8 : ∀ w ∈ wsX80, w ∈ wsX8_sleepAndWake := by decide +kernel
  have hinX3 : ∀ w ∈ wsX30, w ∈ wsX8_sleepAndWake := by decide +kernel
  have hl := lv_entry ([.ref p0]) (n := 6) (Nat.le_of_ble_eq_true rfl)
  rw [lg_entry_eq]
  generalize (lg_sl ([.ref p0]) ++ List.replicate (6 - (lg_sl ([.ref p0])).length) Slot.unset).toArray = ls at hl ⊢
  have hl : lv_has ls 6 [(0, .ref p0)] := hl
  refine lv_iconst (v := 0) hx hb dX8_sleepAndWake_0 (by decide) ?_
  refine lv_istore_n (lv' := [(1, .int 0), (0, .ref p0)]) hx hb dX8_sleepAndWake_1 rfl hl (by decide) rfl (fun ls hl => ?_)
  refine lv_aload_n hx hb dX8_sleepAndWake_2 rfl (lv_at hl 1 rfl) ?_
  refine z_get (k := 10) (j := 1) hM hI hk0 rfl rfl hinX8 rfl (by decide) (by decide +kernel) (fun _ h9 => h9) dX8_sleepAndWake_3 (fun v1 hv2 => ?_)
  obtain ⟨hg4, i3, rfl, hr5⟩ := hv2
  refine lv_astore_n (lv' := [(2, .ref i3), (1, .int 0), (0, .ref p0)]) hx hb dX8_sleepAndWake_6 rfl hl (by decide) rfl (fun ls hl => ?_)
  refine lv_aload_n hx hb dX8_sleepAndWake_7 rfl (lv_at hl 0 rfl) ?_
  refine z_alen (v := 6) hM hI hr5 rfl rfl rfl (by decide) dX8_sleepAndWake_8 ?_
  refine lv_istore_n (lv' := [(3, .int 6), (2, .ref i3), (1, .int 0), (0, .ref p0)]) hx hb dX8_sleepAndWake_9 rfl hl (by decide) rfl (fun ls hl => ?_)
  refine lv_iconst (v := 0) hx hb dX8_sleepAndWake_10 (by decide) ?_
  refine lv_istore (lv' := [(4, .int 0), (3, .int 6), (2, .ref i3), (1, .int 0), (0, .ref p0)]) hx hb dX8_sleepAndWake_11 hl (by decide) rfl (fun ls hl => ?_)
  have hL13 : ∀ (n : Nat) (H : Heap) (locs : List Loc) (x6 : Int32)  (i7 : Nat) (hi : i7 ≤ 6) (hn : 6 - i7 < n)   (hI : zI D tc (zA [] L s.heap.size) s.heap [] L κ g H locs) (ls : Array Slot) (hl : lv_has ls 6 [(3, .int 6), (2, .ref i3), (1, .int x6), (0, .ref p0), (4, .int ((nI i7)))]), W p l e (headSpec wsX8_sleepAndWake ({ frames := 2, cells := 0, slots := 0, locals := 46 })).room s m ([.ref p0] : List Value).toArray below meth c H locs 0 0 (MQ below (va_Qv (fun (u : zS) => u = (L, κ, g)) (fun (u : zS) (t : State) => zB D tc (zA [] L s.heap.size) [] u t) (zA [] L s.heap.size)) ([.ref p0] : List Value).toArray s 0 0 (zA [] L s.heap.size)) (F0 m 13 ls []) := by
    intro n
    induction n with
    | zero => intro H locs x6 i7 hi hn hI ls hl; exact absurd hn (Nat.not_lt_zero _)
    | succ n ih =>
      intro H locs x6 i7 hi hn hI ls hl
      refine lv_iload hx hb dX8_sleepAndWake_13 (lv_at hl 4 rfl) ?_
      refine lv_iload_n hx hb dX8_sleepAndWake_15 rfl (lv_at hl 0 rfl) ?_
      refine lv_icmp_ge (tgt := 103) hx hb dX8_sleepAndWake_16 (by decide) (fun c8 => ?_) (fun c8 => ?_)
      · skip
        have hgec8 : 6 ≤ i7 := z_ge (by omega) (by omega) c8
        exact W.vret hx hb hr (fun t ht hW => ⟨⟨(L, κ, g), rfl, rfl, z_end hK hI ht hW⟩, z_F hI ht⟩) (z_locs hI) dX8_sleepAndWake_103
      · skip
        have hltc8 : i7 < 6 := z_lt (by omega) c8
        refine lv_aload_n hx hb dX8_sleepAndWake_19 rfl (lv_at hl 1 rfl) ?_
        refine lv_iload hx hb dX8_sleepAndWake_20 (lv_at hl 4 rfl) ?_
        refine z_aald hM hI hr5 rfl rfl rfl (vp_in_nI (by omega) (by omega)) dX8_sleepAndWake_22 (fun x9 hv10 => ?_)
        have hL97 : ∀ (H : Heap) (locs : List Loc) (x14 : Int32)    (hI : zI D tc (zA [] L s.heap.size) s.heap [] L κ g H locs) (ls : Array Slot) (hl : lv_has ls 6 [(3, .int 6), (2, .ref i3), (1, .int x14), (0, .ref p0), (4, .int ((nI i7)))]), W p l e (headSpec wsX8_sleepAndWake ({ frames := 2, cells := 0, slots := 0, locals := 46 })).room s m ([.ref p0] : List Value).toArray below meth c H locs 0 0 (MQ below (va_Qv (fun (u : zS) => u = (L, κ, g)) (fun (u : zS) (t : State) => zB D tc (zA [] L s.heap.size) [] u t) (zA [] L s.heap.size)) ([.ref p0] : List Value).toArray s 0 0 (zA [] L s.heap.size)) (F0 m 97 ls []) := by
          intro H locs x14 hI ls hl
          refine lv_iinc (v := nI (i7 + 1)) (lv' := [(4, .int ((nI (i7 + 1)))), (3, .int 6), (2, .ref i3), (1, .int x14), (0, .ref p0)]) hx hb dX8_sleepAndWake_97 hl (k := 4) rfl (z_inc i7) (by decide) rfl (fun ls hl => ?_)
          refine lv_goto (tgt := 13) hx hb dX8_sleepAndWake_100 (by decide) ?_
          exact ih _ _ x14 (i7 + 1) (by first | omega | (simp only [] at *; omega)) (by first | omega | (simp only [] at *; omega)) hI ls (lv_sub hl [1, 2, 3, 4, 0] rfl)
        obtain ⟨hghv10, hn13 | ⟨r11, hn13, hr12⟩⟩ := hv10
        · rw [hn13]
          rw [hn13] at hghv10
          refine lv_astoreN (lv' := [(5, .null), (3, .int 6), (2, .ref i3), (1, .int x6), (0, .ref p0), (4, .int ((nI i7)))]) hx hb dX8_sleepAndWake_23 hl (by decide) rfl (fun ls hl => ?_)
          refine lv_aloadN hx hb dX8_sleepAndWake_25 (lv_at hl 0 rfl) ?_
          refine lv_ifnonnullN hx hb dX8_sleepAndWake_27 ?_
          refine lv_goto (tgt := 97) hx hb dX8_sleepAndWake_30 (by decide) ?_
          exact hL97 _ _ x6 hI ls (lv_sub hl [1, 2, 3, 4, 5] rfl)
        · rw [hn13]
          rw [hn13] at hghv10
          refine lv_astore (lv' := [(5, .ref r11), (3, .int 6), (2, .ref i3), (1, .int x6), (0, .ref p0), (4, .int ((nI i7)))]) hx hb dX8_sleepAndWake_23 hl (by decide) rfl (fun ls hl => ?_)
          refine lv_aload hx hb dX8_sleepAndWake_25 (lv_at hl 0 rfl) ?_
          refine lv_ifnonnull (tgt := 33) hx hb dX8_sleepAndWake_27 (by decide) ?_
          refine lv_aload hx hb dX8_sleepAndWake_33 (lv_at hl 0 rfl) ?_
          refine z_get (k := 5) (j := 9) hM hI hr12 rfl rfl hinX3 rfl (by decide) (by decide +kernel) (fun _ h9 => h9) dX8_sleepAndWake_35 (fun v15 hv16 => ?_)
          obtain ⟨i17, rfl, hf18⟩ := hv16
          refine lv_bipush (v := 119) hx hb dX8_sleepAndWake_38 (by decide) ?_
          refine lv_icmp_ne (tgt := 52) hx hb dX8_sleepAndWake_40 (by decide) (fun c19 => ?_) (fun c19 => ?_)
          · skip
            refine lv_aload hx hb dX8_sleepAndWake_52 (lv_at hl 0 rfl) ?_
            refine z_get (k := 5) (j := 13) hM hI hr12 rfl rfl hinX3 rfl (by decide) (by decide +kernel) (fun _ h9 => h9) dX8_sleepAndWake_54 (fun v20 hv21 => ?_)
            obtain ⟨i22, rfl, hz23⟩ := zv_b hv21
            refine lv_if_ne (tgt := 68) hx hb dX8_sleepAndWake_57 (by decide) (fun c24 => ?_) (fun c24 => ?_)
            · skip
              refine lv_aload hx hb dX8_sleepAndWake_68 (lv_at hl 0 rfl) ?_
              refine lv_iconst (v := 0) hx hb dX8_sleepAndWake_70 (by decide) ?_
              refine z_put (g' := g) (k := 5) (j := 10) hM hI hr12 rfl rfl hinX3 tyX3 tyX3_ok nmX3 rfl (by decide) (by decide +kernel) (fun _ h9 => h9) rfl rfl rfl rfl ⟨_, rfl⟩ (fun _ _ _ => rfl) dX8_sleepAndWake_71 (fun H locs hI => ?_)
              refine lv_aload hx hb dX8_sleepAndWake_74 (lv_at hl 0 rfl) ?_
              refine z_get (k := 5) (j := 9) hM hI hr12 rfl rfl hinX3 rfl (by decide) (by decide +kernel) (fun _ h9 => h9) dX8_sleepAndWake_76 (fun v25 hv26 => ?_)
              obtain ⟨i27, rfl, hf28⟩ := hv26
              refine lv_bipush (v := 97) hx hb dX8_sleepAndWake_79 (by decide) ?_
              refine lv_icmp_eq (tgt := 97) hx hb dX8_sleepAndWake_81 (by decide) (fun c29 => ?_) (fun c29 => ?_)
              · skip
                exact hL97 _ _ x6 hI ls (lv_sub hl [1, 2, 3, 4, 5] rfl)
              · skip
                refine lv_iload_n hx hb dX8_sleepAndWake_84 rfl (lv_at hl 3 rfl) ?_
                refine lv_iconst (v := 2) hx hb dX8_sleepAndWake_85 (by decide) ?_
                refine lv_icmp_ge (tgt := 97) hx hb dX8_sleepAndWake_86 (by decide) (fun c30 => ?_) (fun c30 => ?_)
                · skip
                  exact hL97 _ _ x6 hI ls (lv_sub hl [1, 2, 3, 4, 5] rfl)
                · skip
                  refine lv_aload hx hb dX8_sleepAndWake_89 (lv_at hl 0 rfl) ?_
                  refine z_cv hI (va_runV (As := []) (rest := []) ⟨hx, hb, hml, hown, hts⟩ (c_X3_beginToWake l _ _ _ _ _ _ _ r11 hr12) (cwV 0 hts gX8_sleepAndWake_X3_beginToWake rfl rfl rfl (by decide +kernel) ⟨Nat.le_of_ble_eq_true rfl, Nat.le_of_ble_eq_true rfl⟩) (z_preV hK hE hI [] rfl rfl (z_recv hK hI hr12 rfl rfl)) rfl rfl hl.1 rfl (lv_room (Nat.le_of_ble_eq_true rfl)) dX8_sleepAndWake_91 ⟨Nat.le_of_ble_eq_true rfl, Nat.le_of_ble_eq_true rfl⟩) (fun u H locs hw32 hI => ?_)
                  obtain rfl := hw32
                  obtain ⟨v33, e34⟩ : ∃ y : Int32, y = x6 + Int32.ofInt (1) := ⟨_, rfl⟩
                  refine lv_iinc (v := v33) (lv' := [(1, .int v33), (5, .ref r11), (3, .int 6), (2, .ref i3), (0, .ref p0), (4, .int ((nI i7)))]) hx hb dX8_sleepAndWake_94 hl (k := 3) rfl e34.symm (by decide) rfl (fun ls hl => ?_)
                  exact hL97 _ _ v33 hI ls (lv_sub hl [2, 3, 0, 4, 5] rfl)
            · skip
              refine lv_aload hx hb dX8_sleepAndWake_60 (lv_at hl 0 rfl) ?_
              refine z_cv hI (va_runV (As := []) (rest := []) ⟨hx, hb, hml, hown, hts⟩ (c_X3_countIdle l _ _ _ _ _ _ _ r11 hr12) (cwV 0 hts gX8_sleepAndWake_X3_countIdle rfl rfl rfl (by decide +kernel) ⟨Nat.le_of_ble_eq_true rfl, Nat.le_of_ble_eq_true rfl⟩) (z_preV hK hE hI [] rfl rfl (z_recv hK hI hr12 rfl rfl)) rfl rfl hl.1 rfl (lv_room (Nat.le_of_ble_eq_true rfl)) dX8_sleepAndWake_62 ⟨Nat.le_of_ble_eq_true rfl, Nat.le_of_ble_eq_true rfl⟩) (fun u H locs hw36 hI => ?_)
              obtain rfl := hw36
              refine lv_goto (tgt := 97) hx hb dX8_sleepAndWake_65 (by decide) ?_
              exact hL97 _ _ x6 hI ls (lv_sub hl [1, 2, 3, 4, 5] rfl)
          · skip
            refine lv_aload_n hx hb dX8_sleepAndWake_43 rfl (lv_at hl 4 rfl) ?_
            refine lv_aload hx hb dX8_sleepAndWake_44 (lv_at hl 0 rfl) ?_
            refine z_cv hI (va_runV (As := [.ref r11]) (rest := []) ⟨hx, hb, hml, hown, hts⟩ (c_X8_goOnWaking l _ _ _ _ _ _ _ p0 hk0 r11 hr12) (cwV 1 hts gX8_sleepAndWake_X8_goOnWaking rfl rfl rfl (by decide +kernel) ⟨Nat.le_of_ble_eq_true rfl, Nat.le_of_ble_eq_true rfl⟩) (z_preV hK hE hI [] rfl rfl (z_recv hK hI hk0 rfl rfl)) rfl rfl hl.1 rfl (lv_room (Nat.le_of_ble_eq_true rfl)) dX8_sleepAndWake_46 ⟨Nat.le_of_ble_eq_true rfl, Nat.le_of_ble_eq_true rfl⟩) (fun u H locs hw38 hI => ?_)
            obtain rfl := hw38
            refine lv_goto (tgt := 97) hx hb dX8_sleepAndWake_49 (by decide) ?_
            exact hL97 _ _ x6 hI ls (lv_sub hl [1, 2, 3, 4, 5] rfl)
  exact hL13 (6 + 1) _ _ 0 0 (by first | omega | (simp only [] at *; omega)) (by first | omega | (simp only [] at *; omega)) hI ls (lv_sub hl [1, 2, 3, 4, 0] rfl)

set_option maxHeartbeats 4000000 in
set_option maxRecDepth 100000 in
theorem c_X8_clampOne (l : Launch) (D : va_G) (tc : Nat → ClassId) (z0 : Nat) (L : List Nat) (κ : Nat → Nat) (g : Nat → Nat → Value) (sz : Nat) (p0 : Nat) (hk0 : κ p0 = 10) (p1 : Nat) (hk1 : κ p1 = 5) : Met l yX8_clampOne wsX8_clampOne ({ frames := 2, cells := 0, slots := 0, locals := 40 }) (zPc D tc z0 [.ref p0, .ref p1] [] (L, κ, g) sz) (va_Qv (fun (u : zS) => u = (L, κ, g)) (fun (u : zS) (t : State) => zB D tc (zA [] L sz) [] u t) (zA [] L sz)) 0 0 (zA [] L sz) := by
  refine Met.ofW (cc := cX8_clampOne) (maxL := 2) (ret := none) (by decide) rfl ?_
  intro p e s m args below meth c s₁ B hml hv
  obtain ⟨rfl, rfl, hK, hE, hI⟩ := hv.opn
  have hx := B.exec
  have hb := B.bytes
  have hr := B.returns
  have hts := atoms_spec (ws := wsX8_clampOne) B.pre
  have hown : s.vm.findClass RX8 = some m.cls := findClass_of_methodNamed B.named
  have hlocks := B.notSynchronized
  have hM : zM p s m c cX8_clampOne _ wsX8_clampOne RX8 D tc := ⟨hx, hb, hts, hown, hK⟩
  have hinX3 : ∀ w ∈ wsX30, w ∈ wsX8_clampOne := by decide +kernel
  have hinX8 : ∀ w ∈ wsX80, w ∈ wsX8_clampOne := by decide +kernel
  have hinX6 : ∀ w ∈ wsX60, w ∈ wsX8_clampOne := by decide +kernel
  have hinX5 : ∀ w ∈ wsX50, w ∈ wsX8_clampOne := by decide +kernel
  have hl := lv_entry ([.ref p0, .ref p1]) (n := 2) (Nat.le_of_ble_eq_true rfl)
  rw [lg_entry_eq]
  generalize (lg_sl ([.ref p0, .ref p1]) ++ List.replicate (2 - (lg_sl ([.ref p0, .ref p1])).length) Slot.unset).toArray = ls at hl ⊢
  have hl : lv_has ls 2 [(0, .ref p0), (1, .ref p1)] := hl
  refine lv_aload_n hx hb dX8_clampOne_0 rfl (lv_at hl 1 rfl) ?_
  refine lv_aload_n hx hb dX8_clampOne_1 rfl (lv_at hl 1 rfl) ?_
  refine z_get (k := 5) (j := 5) hM hI hk1 rfl rfl hinX3 rfl (by decide) (by decide +kernel) (fun _ h9 => h9) dX8_clampOne_2 (fun v1 hv2 => ?_)
  obtain ⟨i3, rfl⟩ := hv2
  refine z_put (g' := g) (k := 5) (j := 6) hM hI hk1 rfl rfl hinX3 tyX3 tyX3_ok nmX3 rfl (by decide) (by decide +kernel) (fun _ h9 => h9) rfl rfl rfl rfl ⟨_, rfl⟩ (fun _ _ _ => rfl) dX8_clampOne_5 (fun H locs hI => ?_)
  refine lv_aload_n hx hb dX8_clampOne_8 rfl (lv_at hl 1 rfl) ?_
  refine lv_bipush (v := 45) hx hb dX8_clampOne_9 (by decide) ?_
  refine z_put (g' := g) (k := 5) (j := 8) hM hI hk1 rfl rfl hinX3 tyX3 tyX3_ok nmX3 rfl (by decide) (by decide +kernel) (fun _ h9 => h9) rfl rfl (by decide) (by decide) ⟨_, rfl, by decide⟩ (fun _ _ _ => rfl) dX8_clampOne_11 (fun H locs hI => ?_)
  refine lv_aload_n hx hb dX8_clampOne_14 rfl (lv_at hl 1 rfl) ?_
  refine vp_callSi (W.runV (As := []) (rest := []) ⟨hx, hb, hml, hown, hts⟩ (c_X3_isTooOld l _ _ _ _ _ _ _ p1 hk1) (cwV 0 hts gX8_clampOne_X3_isTooOld rfl rfl rfl (by decide +kernel) ⟨Nat.le_of_ble_eq_true rfl, Nat.le_of_ble_eq_true rfl⟩) (z_preV hK hE hI [] rfl rfl (z_recv hK hI hk1 rfl rfl)) rfl rfl hl.1 rfl (lv_room (Nat.le_of_ble_eq_true rfl)) dX8_clampOne_15 ⟨Nat.le_of_ble_eq_true rfl, Nat.le_of_ble_eq_true rfl⟩) (fun v4 hw5 => ?_)
  have hL28 : ∀ (H : Heap) (locs : List Loc)     (hI : zI D tc (zA [] L s.heap.size) s.heap [] L κ g H locs) (ls : Array Slot) (hl : lv_has ls 2 [(0, .ref p0), (1, .ref p1)]), W p l e (headSpec wsX8_clampOne ({ frames := 2, cells := 0, slots := 0, locals := 40 })).room s m ([.ref p0, .ref p1] : List Value).toArray below meth c H locs 0 0 (MQ below (va_Qv (fun (u : zS) => u = (L, κ, g)) (fun (u : zS) (t : State) => zB D tc (zA [] L s.heap.size) [] u t) (zA [] L s.heap.size)) ([.ref p0, .ref p1] : List Value).toArray s 0 0 (zA [] L s.heap.size)) (F0 m 28 ls []) := by
    intro H locs hI ls hl
    refine lv_aload_n hx hb dX8_clampOne_28 rfl (lv_at hl 1 rfl) ?_
    refine z_get (k := 5) (j := 18) hM hI hk1 rfl rfl hinX3 rfl (by decide) (by decide +kernel) (fun _ h9 => h9) dX8_clampOne_29 (fun v6 hv7 => ?_)
    obtain ⟨i8, rfl, hz9⟩ := zv_b hv7
    have hL42 : ∀ (H : Heap) (locs : List Loc)     (hI : zI D tc (zA [] L s.heap.size) s.heap [] L κ g H locs) (ls : Array Slot) (hl : lv_has ls 2 [(0, .ref p0), (1, .ref p1)]), W p l e (headSpec wsX8_clampOne ({ frames := 2, cells := 0, slots := 0, locals := 40 })).room s m ([.ref p0, .ref p1] : List Value).toArray below meth c H locs 0 0 (MQ below (va_Qv (fun (u : zS) => u = (L, κ, g)) (fun (u : zS) (t : State) => zB D tc (zA [] L s.heap.size) [] u t) (zA [] L s.heap.size)) ([.ref p0, .ref p1] : List Value).toArray s 0 0 (zA [] L s.heap.size)) (F0 m 42 ls []) := by
      intro H locs hI ls hl
      refine lv_aload_n hx hb dX8_clampOne_42 rfl (lv_at hl 0 rfl) ?_
      refine z_get (k := 10) (j := 4) hM hI hk0 rfl rfl hinX8 rfl (by decide) (by decide +kernel) (fun _ h9 => h9) dX8_clampOne_43 (fun v10 hv11 => ?_)
      obtain ⟨hg13, i12, rfl, hr14⟩ := hv11
      refine z_get (k := 8) (j := 5) hM hI hr14 rfl rfl hinX6 rfl (by decide) (by decide +kernel) (fun _ h9 => h9) dX8_clampOne_46 (fun v15 hv16 => ?_)
      obtain ⟨i17, rfl, hz18⟩ := zv_b hv16
      have hL59 : ∀ (H : Heap) (locs : List Loc)     (hI : zI D tc (zA [] L s.heap.size) s.heap [] L κ g H locs) (ls : Array Slot) (hl : lv_has ls 2 [(0, .ref p0), (1, .ref p1)]), W p l e (headSpec wsX8_clampOne ({ frames := 2, cells := 0, slots := 0, locals := 40 })).room s m ([.ref p0, .ref p1] : List Value).toArray below meth c H locs 0 0 (MQ below (va_Qv (fun (u : zS) => u = (L, κ, g)) (fun (u : zS) (t : State) => zB D tc (zA [] L s.heap.size) [] u t) (zA [] L s.heap.size)) ([.ref p0, .ref p1] : List Value).toArray s 0 0 (zA [] L s.heap.size)) (F0 m 59 ls []) := by
        intro H locs hI ls hl
        refine lv_aload_n hx hb dX8_clampOne_59 rfl (lv_at hl 1 rfl) ?_
        refine z_get (k := 5) (j := 17) hM hI hk1 rfl rfl hinX3 rfl (by decide) (by decide +kernel) (fun _ h9 => h9) dX8_clampOne_60 (fun v19 hv20 => ?_)
        obtain ⟨hg22, i21, rfl, hz23⟩ := zv_tb hv20
        have hL73 : ∀ (H : Heap) (locs : List Loc)     (hI : zI D tc (zA [] L s.heap.size) s.heap [] L κ g H locs) (ls : Array Slot) (hl : lv_has ls 2 [(0, .ref p0), (1, .ref p1)]), W p l e (headSpec wsX8_clampOne ({ frames := 2, cells := 0, slots := 0, locals := 40 })).room s m ([.ref p0, .ref p1] : List Value).toArray below meth c H locs 0 0 (MQ below (va_Qv (fun (u : zS) => u = (L, κ, g)) (fun (u : zS) (t : State) => zB D tc (zA [] L s.heap.size) [] u t) (zA [] L s.heap.size)) ([.ref p0, .ref p1] : List Value).toArray s 0 0 (zA [] L s.heap.size)) (F0 m 73 ls []) := by
          intro H locs hI ls hl
          refine lv_aload_n hx hb dX8_clampOne_73 rfl (lv_at hl 0 rfl) ?_
          refine z_get (k := 10) (j := 4) hM hI hk0 rfl rfl hinX8 rfl (by decide) (by decide +kernel) (fun _ h9 => h9) dX8_clampOne_74 (fun v24 hv25 => ?_)
          obtain ⟨hg27, i26, rfl, hr28⟩ := hv25
          refine z_get (k := 8) (j := 2) hM hI hr28 rfl rfl hinX6 rfl (by decide) (by decide +kernel) (fun _ h9 => h9) dX8_clampOne_77 (fun v29 hv30 => ?_)
          obtain ⟨i31, rfl⟩ := hv30
          have hL90 : ∀ (H : Heap) (locs : List Loc)     (hI : zI D tc (zA [] L s.heap.size) s.heap [] L κ g H locs) (ls : Array Slot) (hl : lv_has ls 2 [(0, .ref p0), (1, .ref p1)]), W p l e (headSpec wsX8_clampOne ({ frames := 2, cells := 0, slots := 0, locals := 40 })).room s m ([.ref p0, .ref p1] : List Value).toArray below meth c H locs 0 0 (MQ below (va_Qv (fun (u : zS) => u = (L, κ, g)) (fun (u : zS) (t : State) => zB D tc (zA [] L s.heap.size) [] u t) (zA [] L s.heap.size)) ([.ref p0, .ref p1] : List Value).toArray s 0 0 (zA [] L s.heap.size)) (F0 m 90 ls []) := by
            intro H locs hI ls hl
            refine lv_aload_n hx hb dX8_clampOne_90 rfl (lv_at hl 0 rfl) ?_
            refine z_get (k := 10) (j := 5) hM hI hk0 rfl rfl hinX8 rfl (by decide) (by decide +kernel) (fun _ h9 => h9) dX8_clampOne_91 (fun v32 hv33 => ?_)
            obtain ⟨hg35, i34, rfl, hr36⟩ := hv33
            refine z_get (k := 7) (j := 2) hM hI hr36 rfl rfl hinX5 rfl (by decide) (by decide +kernel) (fun _ h9 => h9) dX8_clampOne_94 (fun v37 hv38 => ?_)
            obtain ⟨hg40, i39, rfl⟩ := hv38
            have hL113 : ∀ (H : Heap) (locs : List Loc)     (hI : zI D tc (zA [] L s.heap.size) s.heap [] L κ g H locs) (ls : Array Slot) (hl : lv_has ls 2 [(0, .ref p0), (1, .ref p1)]), W p l e (headSpec wsX8_clampOne ({ frames := 2, cells := 0, slots := 0, locals := 40 })).room s m ([.ref p0, .ref p1] : List Value).toArray below meth c H locs 0 0 (MQ below (va_Qv (fun (u : zS) => u = (L, κ, g)) (fun (u : zS) (t : State) => zB D tc (zA [] L s.heap.size) [] u t) (zA [] L s.heap.size)) ([.ref p0, .ref p1] : List Value).toArray s 0 0 (zA [] L s.heap.size)) (F0 m 113 ls []) := by
              intro H locs hI ls hl
              refine lv_aload_n hx hb dX8_clampOne_113 rfl (lv_at hl 1 rfl) ?_
              refine z_get (k := 5) (j := 9) hM hI hk1 rfl rfl hinX3 rfl (by decide) (by decide +kernel) (fun _ h9 => h9) dX8_clampOne_114 (fun v41 hv42 => ?_)
              obtain ⟨i43, rfl, hf44⟩ := hv42
              refine lv_bipush (v := 97) hx hb dX8_clampOne_117 (by decide) ?_
              have hL127 : ∀ (H : Heap) (locs : List Loc)     (hI : zI D tc (zA [] L s.heap.size) s.heap [] L κ g H locs) (ls : Array Slot) (hl : lv_has ls 2 [(0, .ref p0), (1, .ref p1)]), W p l e (headSpec wsX8_clampOne ({ frames := 2, cells := 0, slots := 0, locals := 40 })).room s m ([.ref p0, .ref p1] : List Value).toArray below meth c H locs 0 0 (MQ below (va_Qv (fun (u : zS) => u = (L, κ, g)) (fun (u : zS) (t : State) => zB D tc (zA [] L s.heap.size) [] u t) (zA [] L s.heap.size)) ([.ref p0, .ref p1] : List Value).toArray s 0 0 (zA [] L s.heap.size)) (F0 m 127 ls []) := by
                intro H locs hI ls hl
                exact W.vret hx hb hr (fun t ht hW => ⟨⟨(L, κ, g), rfl, rfl, z_end hK hI ht hW⟩, z_F hI ht⟩) (z_locs hI) dX8_clampOne_127
              refine lv_icmp_eq (tgt := 127) hx hb dX8_clampOne_119 (by decide) (fun c45 => ?_) (fun c45 => ?_)
              · skip
                exact hL127 _ _ hI ls (lv_sub hl [0, 1] rfl)
              · skip
                refine lv_aload_n hx hb dX8_clampOne_122 rfl (lv_at hl 1 rfl) ?_
                refine lv_iconst (v := 0) hx hb dX8_clampOne_123 (by decide) ?_
                refine z_put (g' := g) (k := 5) (j := 6) hM hI hk1 rfl rfl hinX3 tyX3 tyX3_ok nmX3 rfl (by decide) (by decide +kernel) (fun _ h9 => h9) rfl rfl rfl rfl ⟨_, rfl⟩ (fun _ _ _ => rfl) dX8_clampOne_124 (fun H locs hI => ?_)
                exact hL127 _ _ hI ls (lv_sub hl [0, 1] rfl)
            refine lv_if_le (tgt := 113) hx hb dX8_clampOne_97 (by decide) (fun c46 => ?_) (fun c46 => ?_)
            · skip
              exact hL113 _ _ hI ls (lv_sub hl [0, 1] rfl)
            · skip
              refine lv_aload_n hx hb dX8_clampOne_100 rfl (lv_at hl 1 rfl) ?_
              refine lv_aload_n hx hb dX8_clampOne_101 rfl (lv_at hl 0 rfl) ?_
              refine z_get (k := 10) (j := 5) hM hI hk0 rfl rfl hinX8 rfl (by decide) (by decide +kernel) (fun _ h9 => h9) dX8_clampOne_102 (fun v47 hv48 => ?_)
              obtain ⟨hg50, i49, rfl, hr51⟩ := hv48
              refine z_get (k := 7) (j := 3) hM hI hr51 rfl rfl hinX5 rfl (by decide) (by decide +kernel) (fun _ h9 => h9) dX8_clampOne_105 (fun v52 hv53 => ?_)
              obtain ⟨i54, rfl⟩ := hv53
              refine lv_bipush (v := 113) hx hb dX8_clampOne_108 (by decide) ?_
              refine z_cv hI (va_runV (As := [.int i54, .int 113]) (rest := []) ⟨hx, hb, hml, hown, hts⟩ (c_X3_limit l _ _ _ _ _ _ _ p1 hk1 i54 113 (by first | assumption | exact Or.inl rfl | exact Or.inr rfl | decide)) (cwV 2 hts gX8_clampOne_X3_limit rfl rfl rfl (by decide +kernel) ⟨Nat.le_of_ble_eq_true rfl, Nat.le_of_ble_eq_true rfl⟩) (z_preV hK hE hI [] rfl rfl (z_recv hK hI hk1 rfl rfl)) rfl rfl hl.1 rfl (lv_room (Nat.le_of_ble_eq_true rfl)) dX8_clampOne_110 ⟨Nat.le_of_ble_eq_true rfl, Nat.le_of_ble_eq_true rfl⟩) (fun u H locs hw56 hI => ?_)
              obtain rfl := hw56
              exact hL113 _ _ hI ls (lv_sub hl [0, 1] rfl)
          refine lv_if_gt (tgt := 90) hx hb dX8_clampOne_80 (by decide) (fun c57 => ?_) (fun c57 => ?_)
          · skip
            exact hL90 _ _ hI ls (lv_sub hl [0, 1] rfl)
          · skip
            refine lv_aload_n hx hb dX8_clampOne_83 rfl (lv_at hl 1 rfl) ?_
            refine lv_iconst (v := 2) hx hb dX8_clampOne_84 (by decide) ?_
            refine lv_bipush (v := 112) hx hb dX8_clampOne_85 (by decide) ?_
            refine z_cv hI (va_runV (As := [.int 2, .int 112]) (rest := []) ⟨hx, hb, hml, hown, hts⟩ (c_X3_limit l _ _ _ _ _ _ _ p1 hk1 2 112 (by first | assumption | exact Or.inl rfl | exact Or.inr rfl | decide)) (cwV 2 hts gX8_clampOne_X3_limit rfl rfl rfl (by decide +kernel) ⟨Nat.le_of_ble_eq_true rfl, Nat.le_of_ble_eq_true rfl⟩) (z_preV hK hE hI [] rfl rfl (z_recv hK hI hk1 rfl rfl)) rfl rfl hl.1 rfl (lv_room (Nat.le_of_ble_eq_true rfl)) dX8_clampOne_87 ⟨Nat.le_of_ble_eq_true rfl, Nat.le_of_ble_eq_true rfl⟩) (fun u H locs hw59 hI => ?_)
            obtain rfl := hw59
            exact hL90 _ _ hI ls (lv_sub hl [0, 1] rfl)
        refine lv_if_eq (tgt := 73) hx hb dX8_clampOne_63 (by decide) (fun c60 => ?_) (fun c60 => ?_)
        · skip
          exact hL73 _ _ hI ls (lv_sub hl [0, 1] rfl)
        · skip
          refine lv_aload_n hx hb dX8_clampOne_66 rfl (lv_at hl 1 rfl) ?_
          refine lv_iconst (v := 2) hx hb dX8_clampOne_67 (by decide) ?_
          refine lv_bipush (v := 110) hx hb dX8_clampOne_68 (by decide) ?_
          refine z_cv hI (va_runV (As := [.int 2, .int 110]) (rest := []) ⟨hx, hb, hml, hown, hts⟩ (c_X3_limit l _ _ _ _ _ _ _ p1 hk1 2 110 (by first | assumption | exact Or.inl rfl | exact Or.inr rfl | decide)) (cwV 2 hts gX8_clampOne_X3_limit rfl rfl rfl (by decide +kernel) ⟨Nat.le_of_ble_eq_true rfl, Nat.le_of_ble_eq_true rfl⟩) (z_preV hK hE hI [] rfl rfl (z_recv hK hI hk1 rfl rfl)) rfl rfl hl.1 rfl (lv_room (Nat.le_of_ble_eq_true rfl)) dX8_clampOne_70 ⟨Nat.le_of_ble_eq_true rfl, Nat.le_of_ble_eq_true rfl⟩) (fun u H locs hw62 hI => ?_)
          obtain rfl := hw62
          exact hL73 _ _ hI ls (lv_sub hl [0, 1] rfl)
      refine lv_if_eq (tgt := 59) hx hb dX8_clampOne_49 (by decide) (fun c63 => ?_) (fun c63 => ?_)
      · skip
        exact hL59 _ _ hI ls (lv_sub hl [0, 1] rfl)
      · skip
        refine lv_aload_n hx hb dX8_clampOne_52 rfl (lv_at hl 1 rfl) ?_
        refine lv_iconst (v := 0) hx hb dX8_clampOne_53 (by decide) ?_
        refine lv_bipush (v := 111) hx hb dX8_clampOne_54 (by decide) ?_
        refine z_cv hI (va_runV (As := [.int 0, .int 111]) (rest := []) ⟨hx, hb, hml, hown, hts⟩ (c_X3_limit l _ _ _ _ _ _ _ p1 hk1 0 111 (by first | assumption | exact Or.inl rfl | exact Or.inr rfl | decide)) (cwV 2 hts gX8_clampOne_X3_limit rfl rfl rfl (by decide +kernel) ⟨Nat.le_of_ble_eq_true rfl, Nat.le_of_ble_eq_true rfl⟩) (z_preV hK hE hI [] rfl rfl (z_recv hK hI hk1 rfl rfl)) rfl rfl hl.1 rfl (lv_room (Nat.le_of_ble_eq_true rfl)) dX8_clampOne_56 ⟨Nat.le_of_ble_eq_true rfl, Nat.le_of_ble_eq_true rfl⟩) (fun u H locs hw65 hI => ?_)
        obtain rfl := hw65
        exact hL59 _ _ hI ls (lv_sub hl [0, 1] rfl)
    refine lv_if_eq (tgt := 42) hx hb dX8_clampOne_32 (by decide) (fun c66 => ?_) (fun c66 => ?_)
    · skip
      exact hL42 _ _ hI ls (lv_sub hl [0, 1] rfl)
    · skip
      refine lv_aload_n hx hb dX8_clampOne_35 rfl (lv_at hl 1 rfl) ?_
      refine lv_iconst (v := 0) hx hb dX8_clampOne_36 (by decide) ?_
      refine lv_bipush (v := 116) hx hb dX8_clampOne_37 (by decide) ?_
      refine z_cv hI (va_runV (As := [.int 0, .int 116]) (rest := []) ⟨hx, hb, hml, hown, hts⟩ (c_X3_limit l _ _ _ _ _ _ _ p1 hk1 0 116 (by first | assumption | exact Or.inl rfl | exact Or.inr rfl | decide)) (cwV 2 hts gX8_clampOne_X3_limit rfl rfl rfl (by decide +kernel) ⟨Nat.le_of_ble_eq_true rfl, Nat.le_of_ble_eq_true rfl⟩) (z_preV hK hE hI [] rfl rfl (z_recv hK hI hk1 rfl rfl)) rfl rfl hl.1 rfl (lv_room (Nat.le_of_ble_eq_true rfl)) dX8_clampOne_39 ⟨Nat.le_of_ble_eq_true rfl, Nat.le_of_ble_eq_true rfl⟩) (fun u H locs hw68 hI => ?_)
      obtain rfl := hw68
      exact hL42 _ _ hI ls (lv_sub hl [0, 1] rfl)
  refine lv_if_eq (tgt := 28) hx hb dX8_clampOne_18 (by decide) (fun c69 => ?_) (fun c69 => ?_)
  · skip
    exact hL28 _ _ hI ls (lv_sub hl [0, 1] rfl)
  · skip
    refine lv_aload_n hx hb dX8_clampOne_21 rfl (lv_at hl 1 rfl) ?_
    refine lv_iconst (v := 0) hx hb dX8_clampOne_22 (by decide) ?_
    refine lv_bipush (v := 114) hx hb dX8_clampOne_23 (by decide) ?_
    refine z_cv hI (va_runV (As := [.int 0, .int 114]) (rest := []) ⟨hx, hb, hml, hown, hts⟩ (c_X3_limit l _ _ _ _ _ _ _ p1 hk1 0 114 (by first | assumption | exact Or.inl rfl | exact Or.inr rfl | decide)) (cwV 2 hts gX8_clampOne_X3_limit rfl rfl rfl (by decide +kernel) ⟨Nat.le_of_ble_eq_true rfl, Nat.le_of_ble_eq_true rfl⟩) (z_preV hK hE hI [] rfl rfl (z_recv hK hI hk1 rfl rfl)) rfl rfl hl.1 rfl (lv_room (Nat.le_of_ble_eq_true rfl)) dX8_clampOne_25 ⟨Nat.le_of_ble_eq_true rfl, Nat.le_of_ble_eq_true rfl⟩) (fun u H locs hw71 hI => ?_)
    obtain rfl := hw71
    exact hL28 _ _ hI ls (lv_sub hl [0, 1] rfl)

set_option maxHeartbeats 4000000 in
set_option maxRecDepth 100000 in
theorem c_X8_wishAndClamp (l : Launch) (D : va_G) (tc : Nat → ClassId) (z0 : Nat) (L : List Nat) (κ : Nat → Nat) (g : Nat → Nat → Value) (sz : Nat) (p0 : Nat) (hk0 : κ p0 = 10) : Met l yX8_wishAndClamp wsX8_wishAndClamp ({ frames := 3, cells := 0, slots := 0, locals := 61 }) (zPc D tc z0 [.ref p0] [] (L, κ, g) sz) (va_Qv (fun (u : zS) => u = (L, κ, g)) (fun (u : zS) (t : State) => zB D tc (zA [] L sz) [] u t) (zA [] L sz)) 0 0 (zA [] L sz) := by
  refine Met.ofW (cc := cX8_wishAndClamp) (maxL := 5) (ret := none) (by decide) rfl ?_
  intro p e s m args below meth c s₁ B hml hv
  obtain ⟨rfl, rfl, hK, hE, hI⟩ := hv.opn
  have hx := B.exec
  have hb := B.bytes
  have hr := B.returns
  have hts := atoms_spec (ws := wsX8_wishAndClamp) B.pre
  have hown : s.vm.findClass RX8 = some m.cls := findClass_of_methodNamed B.named
  have hlocks := B.notSynchronized
  have hM : zM p s m c cX8_wishAndClamp _ wsX8_wishAndClamp RX8 D tc := ⟨hx, hb, hts, hown, hK⟩
  have hinX8 : ∀ w ∈ wsX80, w ∈ wsX8_wishAndClamp := by decide +kernel
  have hinX3 : ∀ w ∈ wsX30, w ∈ wsX8_wishAndClamp := by decide +kernel
  have hl := lv_entry ([.ref p0]) (n := 5) (Nat.le_of_ble_eq_true rfl)
  rw [lg_entry_eq]
  generalize (lg_sl ([.ref p0]) ++ List.replicate (5 - (lg_sl ([.ref p0])).length) Slot.unset).toArray = ls at hl ⊢
  have hl : lv_has ls 5 [(0, .ref p0)] := hl
  refine lv_aload_n hx hb dX8_wishAndClamp_0 rfl (lv_at hl 0 rfl) ?_
  refine z_get (k := 10) (j := 1) hM hI hk0 rfl rfl hinX8 rfl (by decide) (by decide +kernel) (fun _ h9 => h9) dX8_wishAndClamp_1 (fun v1 hv2 => ?_)
  obtain ⟨hg4, i3, rfl, hr5⟩ := hv2
  refine lv_astore_n (lv' := [(1, .ref i3), (0, .ref p0)]) hx hb dX8_wishAndClamp_4 rfl hl (by decide) rfl (fun ls hl => ?_)
  refine lv_aload_n hx hb dX8_wishAndClamp_5 rfl (lv_at hl 0 rfl) ?_
  refine z_alen (v := 6) hM hI hr5 rfl rfl rfl (by decide) dX8_wishAndClamp_6 ?_
  refine lv_istore_n (lv' := [(2, .int 6), (1, .ref i3), (0, .ref p0)]) hx hb dX8_wishAndClamp_7 rfl hl (by decide) rfl (fun ls hl => ?_)
  refine lv_iconst (v := 0) hx hb dX8_wishAndClamp_8 (by decide) ?_
  refine lv_istore_n (lv' := [(3, .int 0), (2, .int 6), (1, .ref i3), (0, .ref p0)]) hx hb dX8_wishAndClamp_9 rfl hl (by decide) rfl (fun ls hl => ?_)
  have hL10 : ∀ (n : Nat) (H : Heap) (locs : List Loc)   (i6 : Nat) (hi : i6 ≤ 6) (hn : 6 - i6 < n)   (hI : zI D tc (zA [] L s.heap.size) s.heap [] L κ g H locs) (ls : Array Slot) (hl : lv_has ls 5 [(2, .int 6), (1, .ref i3), (0, .ref p0), (3, .int ((nI i6)))]), W p l e (headSpec wsX8_wishAndClamp ({ frames := 3, cells := 0, slots := 0, locals := 61 })).room s m ([.ref p0] : List Value).toArray below meth c H locs 0 0 (MQ below (va_Qv (fun (u : zS) => u = (L, κ, g)) (fun (u : zS) (t : State) => zB D tc (zA [] L s.heap.size) [] u t) (zA [] L s.heap.size)) ([.ref p0] : List Value).toArray s 0 0 (zA [] L s.heap.size)) (F0 m 10 ls []) := by
    intro n
    induction n with
    | zero => intro H locs i6 hi hn hI ls hl; exact absurd hn (Nat.not_lt_zero _)
    | succ n ih =>
      intro H locs i6 hi hn hI ls hl
      refine lv_iload_n hx hb dX8_wishAndClamp_10 rfl (lv_at hl 3 rfl) ?_
      refine lv_iload_n hx hb dX8_wishAndClamp_11 rfl (lv_at hl 0 rfl) ?_
      refine lv_icmp_ge (tgt := 51) hx hb dX8_wishAndClamp_12 (by decide) (fun c7 => ?_) (fun c7 => ?_)
      · skip
        have hgec7 : 6 ≤ i6 := z_ge (by omega) (by omega) c7
        exact W.vret hx hb hr (fun t ht hW => ⟨⟨(L, κ, g), rfl, rfl, z_end hK hI ht hW⟩, z_F hI ht⟩) (z_locs hI) dX8_wishAndClamp_51
      · skip
        have hltc7 : i6 < 6 := z_lt (by omega) c7
        refine lv_aload_n hx hb dX8_wishAndClamp_15 rfl (lv_at hl 1 rfl) ?_
        refine lv_iload_n hx hb dX8_wishAndClamp_16 rfl (lv_at hl 3 rfl) ?_
        refine z_aald hM hI hr5 rfl rfl rfl (vp_in_nI (by omega) (by omega)) dX8_wishAndClamp_17 (fun x8 hv9 => ?_)
        have hL45 : ∀ (H : Heap) (locs : List Loc)     (hI : zI D tc (zA [] L s.heap.size) s.heap [] L κ g H locs) (ls : Array Slot) (hl : lv_has ls 5 [(2, .int 6), (1, .ref i3), (0, .ref p0), (3, .int ((nI i6)))]), W p l e (headSpec wsX8_wishAndClamp ({ frames := 3, cells := 0, slots := 0, locals := 61 })).room s m ([.ref p0] : List Value).toArray below meth c H locs 0 0 (MQ below (va_Qv (fun (u : zS) => u = (L, κ, g)) (fun (u : zS) (t : State) => zB D tc (zA [] L s.heap.size) [] u t) (zA [] L s.heap.size)) ([.ref p0] : List Value).toArray s 0 0 (zA [] L s.heap.size)) (F0 m 45 ls []) := by
          intro H locs hI ls hl
          refine lv_iinc (v := nI (i6 + 1)) (lv' := [(3, .int ((nI (i6 + 1)))), (2, .int 6), (1, .ref i3), (0, .ref p0)]) hx hb dX8_wishAndClamp_45 hl (k := 3) rfl (z_inc i6) (by decide) rfl (fun ls hl => ?_)
          refine lv_goto (tgt := 10) hx hb dX8_wishAndClamp_48 (by decide) ?_
          exact ih _ _ (i6 + 1) (by first | omega | (simp only [] at *; omega)) (by first | omega | (simp only [] at *; omega)) hI ls (lv_sub hl [1, 2, 3, 0] rfl)
        obtain ⟨hghv9, hn12 | ⟨r10, hn12, hr11⟩⟩ := hv9
        · rw [hn12]
          rw [hn12] at hghv9
          refine lv_astoreN (lv' := [(4, .null), (2, .int 6), (1, .ref i3), (0, .ref p0), (3, .int ((nI i6)))]) hx hb dX8_wishAndClamp_18 hl (by decide) rfl (fun ls hl => ?_)
          refine lv_aloadN hx hb dX8_wishAndClamp_20 (lv_at hl 0 rfl) ?_
          refine lv_ifnullN (tgt := 45) hx hb dX8_wishAndClamp_22 (by decide) ?_
          exact hL45 _ _ hI ls (lv_sub hl [1, 2, 3, 4] rfl)
        · rw [hn12]
          rw [hn12] at hghv9
          refine lv_astore (lv' := [(4, .ref r10), (2, .int 6), (1, .ref i3), (0, .ref p0), (3, .int ((nI i6)))]) hx hb dX8_wishAndClamp_18 hl (by decide) rfl (fun ls hl => ?_)
          refine lv_aload hx hb dX8_wishAndClamp_20 (lv_at hl 0 rfl) ?_
          refine lv_ifnull hx hb dX8_wishAndClamp_22 ?_
          refine lv_aload hx hb dX8_wishAndClamp_25 (lv_at hl 0 rfl) ?_
          refine lv_aload_n hx hb dX8_wishAndClamp_27 rfl (lv_at hl 3 rfl) ?_
          refine lv_aload hx hb dX8_wishAndClamp_28 (lv_at hl 0 rfl) ?_
          refine z_get (k := 5) (j := 0) hM hI hr11 rfl rfl hinX3 rfl (by decide) (by decide +kernel) (fun _ h9 => h9) dX8_wishAndClamp_30 (fun v13 hv14 => ?_)
          obtain ⟨i15, rfl⟩ := hv14
          refine vp_callSi (W.runV (As := [.int i15]) (rest := [.ref r10]) ⟨hx, hb, hml, hown, hts⟩ (c_X8_threadsWithWorkOn l _ _ _ _ _ _ _ p0 hk0 i15) (cwV 1 hts gX8_wishAndClamp_X8_threadsWithWorkOn rfl rfl rfl (by decide +kernel) ⟨Nat.le_of_ble_eq_true rfl, Nat.le_of_ble_eq_true rfl⟩) (z_preV hK hE hI [] rfl rfl (z_recv hK hI hk0 rfl rfl)) rfl rfl hl.1 rfl (lv_room (Nat.le_of_ble_eq_true rfl)) dX8_wishAndClamp_33 ⟨Nat.le_of_ble_eq_true rfl, Nat.le_of_ble_eq_true rfl⟩) (fun v16 hw17 => ?_)
          refine z_cv hI (va_runV (As := [.int v16]) (rest := []) ⟨hx, hb, hml, hown, hts⟩ (c_X3_wish l _ _ _ _ _ _ _ r10 hr11 v16) (cwV 1 hts gX8_wishAndClamp_X3_wish rfl rfl rfl (by decide +kernel) ⟨Nat.le_of_ble_eq_true rfl, Nat.le_of_ble_eq_true rfl⟩) (z_preV hK hE hI [] rfl rfl (z_recv hK hI hr11 rfl rfl)) rfl rfl hl.1 rfl (lv_room (Nat.le_of_ble_eq_true rfl)) dX8_wishAndClamp_36 ⟨Nat.le_of_ble_eq_true rfl, Nat.le_of_ble_eq_true rfl⟩) (fun u H locs hw19 hI => ?_)
          obtain rfl := hw19
          refine lv_aload_n hx hb dX8_wishAndClamp_39 rfl (lv_at hl 3 rfl) ?_
          refine lv_aload hx hb dX8_wishAndClamp_40 (lv_at hl 0 rfl) ?_
          refine z_cv hI (va_runV (As := [.ref r10]) (rest := []) ⟨hx, hb, hml, hown, hts⟩ (c_X8_clampOne l _ _ _ _ _ _ _ p0 hk0 r10 hr11) (cwV 1 hts gX8_wishAndClamp_X8_clampOne rfl rfl rfl (by decide +kernel) ⟨Nat.le_of_ble_eq_true rfl, Nat.le_of_ble_eq_true rfl⟩) (z_preV hK hE hI [] rfl rfl (z_recv hK hI hk0 rfl rfl)) rfl rfl hl.1 rfl (lv_room (Nat.le_of_ble_eq_true rfl)) dX8_wishAndClamp_42 ⟨Nat.le_of_ble_eq_true rfl, Nat.le_of_ble_eq_true rfl⟩) (fun u H locs hw21 hI => ?_)
          obtain rfl := hw21
          exact hL45 _ _ hI ls (lv_sub hl [1, 2, 3, 4] rfl)
  exact hL10 (6 + 1) _ _ 0 (by first | omega | (simp only [] at *; omega)) (by first | omega | (simp only [] at *; omega)) hI ls (lv_sub hl [1, 2, 3, 0] rfl)

set_option maxHeartbeats 4000000 in
set_option maxRecDepth 100000 in
theorem c_X8_driveRails (l : Launch) (D : va_G) (tc : Nat → ClassId) (z0 : Nat) (L : List Nat) (κ : Nat → Nat) (g : Nat → Nat → Value) (sz : Nat) (p0 : Nat) (hk0 : κ p0 = 10) : Met l yX8_driveRails wsX8_driveRails ({ frames := 2, cells := 0, slots := 0, locals := 44 }) (zPc D tc z0 [.ref p0] [] (L, κ, g) sz) (va_Qv (fun (u : zS) => u = (L, κ, g)) (fun (u : zS) (t : State) => zB D tc (zA [] L sz) [] u t) (zA [] L sz)) 0 0 (zA [] L sz) := by
  refine Met.ofW (cc := cX8_driveRails) (maxL := 5) (ret := none) (by decide) rfl ?_
  intro p e s m args below meth c s₁ B hml hv
  obtain ⟨rfl, rfl, hK, hE, hI⟩ := hv.opn
  have hx := B.exec
  have hb := B.bytes
  have hr := B.returns
  have hts := atoms_spec (ws := wsX8_driveRails) B.pre
  have hown : s.vm.findClass RX8 = some m.cls := findClass_of_methodNamed B.named
  have hlocks := B.notSynchronized
  have hM : zM p s m c cX8_driveRails _ wsX8_driveRails RX8 D tc := ⟨hx, hb, hts, hown, hK⟩
  have hinX8 : ∀ w ∈ wsX80, w ∈ wsX8_driveRails := by decide +kernel
  have hinX3 : ∀ w ∈ wsX30, w ∈ wsX8_driveRails := by decide +kernel
  have hinX4 : ∀ w ∈ wsX40, w ∈ wsX8_driveRails := by decide +kernel
  have hl := lv_entry ([.ref p0]) (n := 5) (Nat.le_of_ble_eq_true rfl)
  rw [lg_entry_eq]
  generalize (lg_sl ([.ref p0]) ++ List.replicate (5 - (lg_sl ([.ref p0])).length) Slot.unset).toArray = ls at hl ⊢
  have hl : lv_has ls 5 [(0, .ref p0)] := hl
  refine lv_aload_n hx hb dX8_driveRails_0 rfl (lv_at hl 0 rfl) ?_
  refine z_get (k := 10) (j := 0) hM hI hk0 rfl rfl hinX8 rfl (by decide) (by decide +kernel) (fun _ h9 => h9) dX8_driveRails_1 (fun v1 hv2 => ?_)
  obtain ⟨hg4, i3, rfl, hr5⟩ := hv2
  refine lv_astore_n (lv' := [(1, .ref i3), (0, .ref p0)]) hx hb dX8_driveRails_4 rfl hl (by decide) rfl (fun ls hl => ?_)
  refine lv_aload_n hx hb dX8_driveRails_5 rfl (lv_at hl 0 rfl) ?_
  refine z_alen (v := 3) hM hI hr5 rfl rfl rfl (by decide) dX8_driveRails_6 ?_
  refine lv_istore_n (lv' := [(2, .int 3), (1, .ref i3), (0, .ref p0)]) hx hb dX8_driveRails_7 rfl hl (by decide) rfl (fun ls hl => ?_)
  refine lv_iconst (v := 0) hx hb dX8_driveRails_8 (by decide) ?_
  refine lv_istore_n (lv' := [(3, .int 0), (2, .int 3), (1, .ref i3), (0, .ref p0)]) hx hb dX8_driveRails_9 rfl hl (by decide) rfl (fun ls hl => ?_)
  have hL10 : ∀ (n : Nat) (H : Heap) (locs : List Loc)   (i6 : Nat) (hi : i6 ≤ 3) (hn : 3 - i6 < n)   (hI : zI D tc (zA [] L s.heap.size) s.heap [] L κ g H locs) (ls : Array Slot) (hl : lv_has ls 5 [(2, .int 3), (1, .ref i3), (0, .ref p0), (3, .int ((nI i6)))]), W p l e (headSpec wsX8_driveRails ({ frames := 2, cells := 0, slots := 0, locals := 44 })).room s m ([.ref p0] : List Value).toArray below meth c H locs 0 0 (MQ below (va_Qv (fun (u : zS) => u = (L, κ, g)) (fun (u : zS) (t : State) => zB D tc (zA [] L s.heap.size) [] u t) (zA [] L s.heap.size)) ([.ref p0] : List Value).toArray s 0 0 (zA [] L s.heap.size)) (F0 m 10 ls []) := by
    intro n
    induction n with
    | zero => intro H locs i6 hi hn hI ls hl; exact absurd hn (Nat.not_lt_zero _)
    | succ n ih =>
      intro H locs i6 hi hn hI ls hl
      refine lv_iload_n hx hb dX8_driveRails_10 rfl (lv_at hl 3 rfl) ?_
      refine lv_iload_n hx hb dX8_driveRails_11 rfl (lv_at hl 0 rfl) ?_
      refine lv_icmp_ge (tgt := 39) hx hb dX8_driveRails_12 (by decide) (fun c7 => ?_) (fun c7 => ?_)
      · skip
        have hgec7 : 3 ≤ i6 := z_ge (by omega) (by omega) c7
        refine lv_aload_n hx hb dX8_driveRails_39 rfl (lv_at hl 2 rfl) ?_
        refine z_get (k := 10) (j := 1) hM hI hk0 rfl rfl hinX8 rfl (by decide) (by decide +kernel) (fun _ h9 => h9) dX8_driveRails_40 (fun v8 hv9 => ?_)
        obtain ⟨hg11, i10, rfl, hr12⟩ := hv9
        refine lv_astore_n (lv' := [(1, .ref i10), (2, .int 3), (0, .ref p0), (3, .int ((nI i6)))]) hx hb dX8_driveRails_43 rfl hl (by decide) rfl (fun ls hl => ?_)
        refine lv_aload_n hx hb dX8_driveRails_44 rfl (lv_at hl 0 rfl) ?_
        refine z_alen (v := 6) hM hI hr12 rfl rfl rfl (by decide) dX8_driveRails_45 ?_
        refine lv_istore_n (lv' := [(2, .int 6), (1, .ref i10), (0, .ref p0), (3, .int ((nI i6)))]) hx hb dX8_driveRails_46 rfl hl (by decide) rfl (fun ls hl => ?_)
        refine lv_iconst (v := 0) hx hb dX8_driveRails_47 (by decide) ?_
        refine lv_istore_n (lv' := [(3, .int 0), (2, .int 6), (1, .ref i10), (0, .ref p0)]) hx hb dX8_driveRails_48 rfl hl (by decide) rfl (fun ls hl => ?_)
        have hL49 : ∀ (n : Nat) (H : Heap) (locs : List Loc)   (i13 : Nat) (hi : i13 ≤ 6) (hn : 6 - i13 < n)   (hI : zI D tc (zA [] L s.heap.size) s.heap [] L κ g H locs) (ls : Array Slot) (hl : lv_has ls 5 [(2, .int 6), (1, .ref i10), (0, .ref p0), (3, .int ((nI i13)))]), W p l e (headSpec wsX8_driveRails ({ frames := 2, cells := 0, slots := 0, locals := 44 })).room s m ([.ref p0] : List Value).toArray below meth c H locs 0 0 (MQ below (va_Qv (fun (u : zS) => u = (L, κ, g)) (fun (u : zS) (t : State) => zB D tc (zA [] L s.heap.size) [] u t) (zA [] L s.heap.size)) ([.ref p0] : List Value).toArray s 0 0 (zA [] L s.heap.size)) (F0 m 49 ls []) := by
          intro n
          induction n with
          | zero => intro H locs i13 hi hn hI ls hl; exact absurd hn (Nat.not_lt_zero _)
          | succ n ih =>
            intro H locs i13 hi hn hI ls hl
            refine lv_iload_n hx hb dX8_driveRails_49 rfl (lv_at hl 3 rfl) ?_
            refine lv_iload_n hx hb dX8_driveRails_50 rfl (lv_at hl 0 rfl) ?_
            refine lv_icmp_ge (tgt := 99) hx hb dX8_driveRails_51 (by decide) (fun c14 => ?_) (fun c14 => ?_)
            · skip
              have hgec14 : 6 ≤ i13 := z_ge (by omega) (by omega) c14
              refine lv_aload_n hx hb dX8_driveRails_99 rfl (lv_at hl 2 rfl) ?_
              refine z_get (k := 10) (j := 0) hM hI hk0 rfl rfl hinX8 rfl (by decide) (by decide +kernel) (fun _ h9 => h9) dX8_driveRails_100 (fun v15 hv16 => ?_)
              obtain ⟨hg18, i17, rfl, hr19⟩ := hv16
              refine lv_astore_n (lv' := [(1, .ref i17), (2, .int 6), (0, .ref p0), (3, .int ((nI i13)))]) hx hb dX8_driveRails_103 rfl hl (by decide) rfl (fun ls hl => ?_)
              refine lv_aload_n hx hb dX8_driveRails_104 rfl (lv_at hl 0 rfl) ?_
              refine z_alen (v := 3) hM hI hr19 rfl rfl rfl (by decide) dX8_driveRails_105 ?_
              refine lv_istore_n (lv' := [(2, .int 3), (1, .ref i17), (0, .ref p0), (3, .int ((nI i13)))]) hx hb dX8_driveRails_106 rfl hl (by decide) rfl (fun ls hl => ?_)
              refine lv_iconst (v := 0) hx hb dX8_driveRails_107 (by decide) ?_
              refine lv_istore_n (lv' := [(3, .int 0), (2, .int 3), (1, .ref i17), (0, .ref p0)]) hx hb dX8_driveRails_108 rfl hl (by decide) rfl (fun ls hl => ?_)
              have hL109 : ∀ (n : Nat) (H : Heap) (locs : List Loc)   (i20 : Nat) (hi : i20 ≤ 3) (hn : 3 - i20 < n)   (hI : zI D tc (zA [] L s.heap.size) s.heap [] L κ g H locs) (ls : Array Slot) (hl : lv_has ls 5 [(2, .int 3), (1, .ref i17), (0, .ref p0), (3, .int ((nI i20)))]), W p l e (headSpec wsX8_driveRails ({ frames := 2, cells := 0, slots := 0, locals := 44 })).room s m ([.ref p0] : List Value).toArray below meth c H locs 0 0 (MQ below (va_Qv (fun (u : zS) => u = (L, κ, g)) (fun (u : zS) (t : State) => zB D tc (zA [] L s.heap.size) [] u t) (zA [] L s.heap.size)) ([.ref p0] : List Value).toArray s 0 0 (zA [] L s.heap.size)) (F0 m 109 ls []) := by
                intro n
                induction n with
                | zero => intro H locs i20 hi hn hI ls hl; exact absurd hn (Nat.not_lt_zero _)
                | succ n ih =>
                  intro H locs i20 hi hn hI ls hl
                  refine lv_iload_n hx hb dX8_driveRails_109 rfl (lv_at hl 3 rfl) ?_
                  refine lv_iload_n hx hb dX8_driveRails_110 rfl (lv_at hl 0 rfl) ?_
                  refine lv_icmp_ge (tgt := 135) hx hb dX8_driveRails_111 (by decide) (fun c21 => ?_) (fun c21 => ?_)
                  · skip
                    have hgec21 : 3 ≤ i20 := z_ge (by omega) (by omega) c21
                    exact W.vret hx hb hr (fun t ht hW => ⟨⟨(L, κ, g), rfl, rfl, z_end hK hI ht hW⟩, z_F hI ht⟩) (z_locs hI) dX8_driveRails_135
                  · skip
                    have hltc21 : i20 < 3 := z_lt (by omega) c21
                    refine lv_aload_n hx hb dX8_driveRails_114 rfl (lv_at hl 1 rfl) ?_
                    refine lv_iload_n hx hb dX8_driveRails_115 rfl (lv_at hl 3 rfl) ?_
                    refine z_aald hM hI hr19 rfl rfl rfl (vp_in_nI (by omega) (by omega)) dX8_driveRails_116 (fun x22 hv23 => ?_)
                    obtain ⟨r24, hn26, hr25⟩ := hv23
                    rw [hn26]
                    refine lv_astore (lv' := [(4, .ref r24), (2, .int 3), (1, .ref i17), (0, .ref p0), (3, .int ((nI i20)))]) hx hb dX8_driveRails_117 hl (by decide) rfl (fun ls hl => ?_)
                    refine lv_aload hx hb dX8_driveRails_119 (lv_at hl 0 rfl) ?_
                    have hL129 : ∀ (H : Heap) (locs : List Loc)     (hI : zI D tc (zA [] L s.heap.size) s.heap [] L κ g H locs) (ls : Array Slot) (hl : lv_has ls 5 [(4, .ref r24), (2, .int 3), (1, .ref i17), (0, .ref p0), (3, .int ((nI i20)))]), W p l e (headSpec wsX8_driveRails ({ frames := 2, cells := 0, slots := 0, locals := 44 })).room s m ([.ref p0] : List Value).toArray below meth c H locs 0 0 (MQ below (va_Qv (fun (u : zS) => u = (L, κ, g)) (fun (u : zS) (t : State) => zB D tc (zA [] L s.heap.size) [] u t) (zA [] L s.heap.size)) ([.ref p0] : List Value).toArray s 0 0 (zA [] L s.heap.size)) (F0 m 129 ls []) := by
                      intro H locs hI ls hl
                      refine lv_iinc (v := nI (i20 + 1)) (lv' := [(3, .int ((nI (i20 + 1)))), (4, .ref r24), (2, .int 3), (1, .ref i17), (0, .ref p0)]) hx hb dX8_driveRails_129 hl (k := 4) rfl (z_inc i20) (by decide) rfl (fun ls hl => ?_)
                      refine lv_goto (tgt := 109) hx hb dX8_driveRails_132 (by decide) ?_
                      exact ih _ _ (i20 + 1) (by first | omega | (simp only [] at *; omega)) (by first | omega | (simp only [] at *; omega)) hI ls (lv_sub hl [2, 3, 4, 0] rfl)
                    refine lv_ifnull hx hb dX8_driveRails_121 ?_
                    refine lv_aload hx hb dX8_driveRails_124 (lv_at hl 0 rfl) ?_
                    refine z_cv hI (va_runV (As := []) (rest := []) ⟨hx, hb, hml, hown, hts⟩ (c_X4_goTowardsTarget l _ _ _ _ _ _ _ r24 hr25) (cwV 0 hts gX8_driveRails_X4_goTowardsTarget rfl rfl rfl (by decide +kernel) ⟨Nat.le_of_ble_eq_true rfl, Nat.le_of_ble_eq_true rfl⟩) (z_preV hK hE hI [] rfl rfl (z_recv hK hI hr25 rfl rfl)) rfl rfl hl.1 rfl (lv_room (Nat.le_of_ble_eq_true rfl)) dX8_driveRails_126 ⟨Nat.le_of_ble_eq_true rfl, Nat.le_of_ble_eq_true rfl⟩) (fun u H locs hw28 hI => ?_)
                    obtain rfl := hw28
                    exact hL129 _ _ hI ls (lv_sub hl [0, 1, 2, 3, 4] rfl)
              exact hL109 (3 + 1) _ _ 0 (by first | omega | (simp only [] at *; omega)) (by first | omega | (simp only [] at *; omega)) hI ls (lv_sub hl [1, 2, 3, 0] rfl)
            · skip
              have hltc14 : i13 < 6 := z_lt (by omega) c14
              refine lv_aload_n hx hb dX8_driveRails_54 rfl (lv_at hl 1 rfl) ?_
              refine lv_iload_n hx hb dX8_driveRails_55 rfl (lv_at hl 3 rfl) ?_
              refine z_aald hM hI hr12 rfl rfl rfl (vp_in_nI (by omega) (by omega)) dX8_driveRails_56 (fun x29 hv30 => ?_)
              have hL93 : ∀ (H : Heap) (locs : List Loc)     (hI : zI D tc (zA [] L s.heap.size) s.heap [] L κ g H locs) (ls : Array Slot) (hl : lv_has ls 5 [(2, .int 6), (1, .ref i10), (0, .ref p0), (3, .int ((nI i13)))]), W p l e (headSpec wsX8_driveRails ({ frames := 2, cells := 0, slots := 0, locals := 44 })).room s m ([.ref p0] : List Value).toArray below meth c H locs 0 0 (MQ below (va_Qv (fun (u : zS) => u = (L, κ, g)) (fun (u : zS) (t : State) => zB D tc (zA [] L s.heap.size) [] u t) (zA [] L s.heap.size)) ([.ref p0] : List Value).toArray s 0 0 (zA [] L s.heap.size)) (F0 m 93 ls []) := by
                intro H locs hI ls hl
                refine lv_iinc (v := nI (i13 + 1)) (lv' := [(3, .int ((nI (i13 + 1)))), (2, .int 6), (1, .ref i10), (0, .ref p0)]) hx hb dX8_driveRails_93 hl (k := 3) rfl (z_inc i13) (by decide) rfl (fun ls hl => ?_)
                refine lv_goto (tgt := 49) hx hb dX8_driveRails_96 (by decide) ?_
                exact ih _ _ (i13 + 1) (by first | omega | (simp only [] at *; omega)) (by first | omega | (simp only [] at *; omega)) hI ls (lv_sub hl [1, 2, 3, 0] rfl)
              obtain ⟨hghv30, hn33 | ⟨r31, hn33, hr32⟩⟩ := hv30
              · rw [hn33]
                rw [hn33] at hghv30
                refine lv_astoreN (lv' := [(4, .null), (2, .int 6), (1, .ref i10), (0, .ref p0), (3, .int ((nI i13)))]) hx hb dX8_driveRails_57 hl (by decide) rfl (fun ls hl => ?_)
                refine lv_aloadN hx hb dX8_driveRails_59 (lv_at hl 0 rfl) ?_
                refine lv_ifnullN (tgt := 93) hx hb dX8_driveRails_61 (by decide) ?_
                exact hL93 _ _ hI ls (lv_sub hl [1, 2, 3, 4] rfl)
              · rw [hn33]
                rw [hn33] at hghv30
                refine lv_astore (lv' := [(4, .ref r31), (2, .int 6), (1, .ref i10), (0, .ref p0), (3, .int ((nI i13)))]) hx hb dX8_driveRails_57 hl (by decide) rfl (fun ls hl => ?_)
                refine lv_aload hx hb dX8_driveRails_59 (lv_at hl 0 rfl) ?_
                refine lv_ifnull hx hb dX8_driveRails_61 ?_
                refine lv_aload hx hb dX8_driveRails_64 (lv_at hl 0 rfl) ?_
                refine z_get (k := 5) (j := 1) hM hI hr32 rfl rfl hinX3 rfl (by decide) (by decide +kernel) (fun _ h9 => h9) dX8_driveRails_66 (fun v34 hv35 => ?_)
                obtain ⟨i36, rfl, hr37⟩ := hv35
                refine lv_aload hx hb dX8_driveRails_69 (lv_at hl 0 rfl) ?_
                refine z_get (k := 5) (j := 1) hM hI hr32 rfl rfl hinX3 rfl (by decide) (by decide +kernel) (fun _ h9 => h9) dX8_driveRails_71 (fun v38 hv39 => ?_)
                obtain ⟨i40, rfl, hr41⟩ := hv39
                refine z_get (k := 6) (j := 1) hM hI hr41 rfl rfl hinX4 rfl (by decide) (by decide +kernel) (fun _ h9 => h9) dX8_driveRails_74 (fun v42 hv43 => ?_)
                obtain ⟨i44, rfl⟩ := hv43
                refine lv_aload hx hb dX8_driveRails_77 (lv_at hl 0 rfl) ?_
                refine lv_aload hx hb dX8_driveRails_79 (lv_at hl 0 rfl) ?_
                refine z_get (k := 5) (j := 6) hM hI hr32 rfl rfl hinX3 rfl (by decide) (by decide +kernel) (fun _ h9 => h9) dX8_driveRails_81 (fun v45 hv46 => ?_)
                obtain ⟨i47, rfl⟩ := hv46
                refine vp_callSi (W.runV (As := [.int i47]) (rest := [.int i44, .ref i36]) ⟨hx, hb, hml, hown, hts⟩ (c_X3_voltsFor l _ _ _ _ _ _ _ r31 hr32 i47) (cwV 1 hts gX8_driveRails_X3_voltsFor rfl rfl rfl (by decide +kernel) ⟨Nat.le_of_ble_eq_true rfl, Nat.le_of_ble_eq_true rfl⟩) (z_preV hK hE hI [] rfl rfl (z_recv hK hI hr32 rfl rfl)) rfl rfl hl.1 rfl (lv_room (Nat.le_of_ble_eq_true rfl)) dX8_driveRails_84 ⟨Nat.le_of_ble_eq_true rfl, Nat.le_of_ble_eq_true rfl⟩) (fun v48 hw49 => ?_)
                refine va_mmax hx hb (hml.trans hl.1.symm) hown (hts (.methodLink RX8 414 Lib.Math.max.name) (by decide +kernel)) (hts (.static Lib.Math.max.name) (by decide +kernel)) (hts (.initialized "java/lang/Math") (by decide +kernel)) (hts (.code Lib.Math.max.name Lib.Math.max.code 2 (some .int)) (by decide +kernel)) (Nat.le_of_ble_eq_true rfl) (Nat.le_of_ble_eq_true rfl) (Nat.le_of_ble_eq_true rfl) (Nat.le_of_ble_eq_true rfl) dX8_driveRails_87 ?_
                refine lv_topi (fun v50 e51 => ?_)
                refine z_put (g' := g) (k := 6) (j := 1) hM hI hr37 rfl rfl hinX4 tyX4 tyX4_ok nmX4 rfl (by decide) (by decide +kernel) (fun _ h9 => h9) rfl rfl rfl rfl ⟨_, rfl⟩ (fun _ _ _ => rfl) dX8_driveRails_90 (fun H locs hI => ?_)
                exact hL93 _ _ hI ls (lv_sub hl [1, 2, 3, 4] rfl)
        exact hL49 (6 + 1) _ _ 0 (by first | omega | (simp only [] at *; omega)) (by first | omega | (simp only [] at *; omega)) hI ls (lv_sub hl [1, 2, 3, 0] rfl)
      · skip
        have hltc7 : i6 < 3 := z_lt (by omega) c7
        refine lv_aload_n hx hb dX8_driveRails_15 rfl (lv_at hl 1 rfl) ?_
        refine lv_iload_n hx hb dX8_driveRails_16 rfl (lv_at hl 3 rfl) ?_
        refine z_aald hM hI hr5 rfl rfl rfl (vp_in_nI (by omega) (by omega)) dX8_driveRails_17 (fun x52 hv53 => ?_)
        obtain ⟨r54, hn56, hr55⟩ := hv53
        rw [hn56]
        refine lv_astore (lv' := [(4, .ref r54), (2, .int 3), (1, .ref i3), (0, .ref p0), (3, .int ((nI i6)))]) hx hb dX8_driveRails_18 hl (by decide) rfl (fun ls hl => ?_)
        refine lv_aload hx hb dX8_driveRails_20 (lv_at hl 0 rfl) ?_
        have hL33 : ∀ (H : Heap) (locs : List Loc)     (hI : zI D tc (zA [] L s.heap.size) s.heap [] L κ g H locs) (ls : Array Slot) (hl : lv_has ls 5 [(4, .ref r54), (2, .int 3), (1, .ref i3), (0, .ref p0), (3, .int ((nI i6)))]), W p l e (headSpec wsX8_driveRails ({ frames := 2, cells := 0, slots := 0, locals := 44 })).room s m ([.ref p0] : List Value).toArray below meth c H locs 0 0 (MQ below (va_Qv (fun (u : zS) => u = (L, κ, g)) (fun (u : zS) (t : State) => zB D tc (zA [] L s.heap.size) [] u t) (zA [] L s.heap.size)) ([.ref p0] : List Value).toArray s 0 0 (zA [] L s.heap.size)) (F0 m 33 ls []) := by
          intro H locs hI ls hl
          refine lv_iinc (v := nI (i6 + 1)) (lv' := [(3, .int ((nI (i6 + 1)))), (4, .ref r54), (2, .int 3), (1, .ref i3), (0, .ref p0)]) hx hb dX8_driveRails_33 hl (k := 4) rfl (z_inc i6) (by decide) rfl (fun ls hl => ?_)
          refine lv_goto (tgt := 10) hx hb dX8_driveRails_36 (by decide) ?_
          exact ih _ _ (i6 + 1) (by first | omega | (simp only [] at *; omega)) (by first | omega | (simp only [] at *; omega)) hI ls (lv_sub hl [2, 3, 4, 0] rfl)
        refine lv_ifnull hx hb dX8_driveRails_22 ?_
        refine lv_aload hx hb dX8_driveRails_25 (lv_at hl 0 rfl) ?_
        refine lv_sipush (v := 500) hx hb dX8_driveRails_27 (by decide) ?_
        refine z_put (g' := g) (k := 6) (j := 1) hM hI hr55 rfl rfl hinX4 tyX4 tyX4_ok nmX4 rfl (by decide) (by decide +kernel) (fun _ h9 => h9) rfl rfl rfl rfl ⟨_, rfl⟩ (fun _ _ _ => rfl) dX8_driveRails_30 (fun H locs hI => ?_)
        exact hL33 _ _ hI ls (lv_sub hl [0, 1, 2, 3, 4] rfl)
  exact hL10 (3 + 1) _ _ 0 (by first | omega | (simp only [] at *; omega)) (by first | omega | (simp only [] at *; omega)) hI ls (lv_sub hl [1, 2, 3, 0] rfl)

set_option maxHeartbeats 4000000 in
set_option maxRecDepth 100000 in
theorem c_X8_letCoresRun (l : Launch) (D : va_G) (tc : Nat → ClassId) (z0 : Nat) (L : List Nat) (κ : Nat → Nat) (g : Nat → Nat → Value) (sz : Nat) (p0 : Nat) (hk0 : κ p0 = 10) : Met l yX8_letCoresRun wsX8_letCoresRun ({ frames := 3, cells := 0, slots := 0, locals := 80 }) (zPc D tc z0 [.ref p0] [] (L, κ, g) sz) (va_Qv (fun (u : zS) => u = (L, κ, g)) (fun (u : zS) (t : State) => zB D tc (zA [] L sz) [] u t) (zA [] L sz)) 0 0 (zA [] L sz) := by
  refine Met.ofW (cc := cX8_letCoresRun) (maxL := 6) (ret := none) (by decide) rfl ?_
  intro p e s m args below meth c s₁ B hml hv
  obtain ⟨rfl, rfl, hK, hE, hI⟩ := hv.opn
  have hx := B.exec
  have hb := B.bytes
  have hr := B.returns
  have hts := atoms_spec (ws := wsX8_letCoresRun) B.pre
  have hown : s.vm.findClass RX8 = some m.cls := findClass_of_methodNamed B.named
  have hlocks := B.notSynchronized
  have hM : zM p s m c cX8_letCoresRun _ wsX8_letCoresRun RX8 D tc := ⟨hx, hb, hts, hown, hK⟩
  have hinX8 : ∀ w ∈ wsX80, w ∈ wsX8_letCoresRun := by decide +kernel
  have hinX3 : ∀ w ∈ wsX30, w ∈ wsX8_letCoresRun := by decide +kernel
  have hl := lv_entry ([.ref p0]) (n := 6) (Nat.le_of_ble_eq_true rfl)
  rw [lg_entry_eq]
  generalize (lg_sl ([.ref p0]) ++ List.replicate (6 - (lg_sl ([.ref p0])).length) Slot.unset).toArray = ls at hl ⊢
  have hl : lv_has ls 6 [(0, .ref p0)] := hl
  refine lv_aload_n hx hb dX8_letCoresRun_0 rfl (lv_at hl 0 rfl) ?_
  refine z_get (k := 10) (j := 1) hM hI hk0 rfl rfl hinX8 rfl (by decide) (by decide +kernel) (fun _ h9 => h9) dX8_letCoresRun_1 (fun v1 hv2 => ?_)
  obtain ⟨hg4, i3, rfl, hr5⟩ := hv2
  refine lv_astore_n (lv' := [(1, .ref i3), (0, .ref p0)]) hx hb dX8_letCoresRun_4 rfl hl (by decide) rfl (fun ls hl => ?_)
  refine lv_aload_n hx hb dX8_letCoresRun_5 rfl (lv_at hl 0 rfl) ?_
  refine z_alen (v := 6) hM hI hr5 rfl rfl rfl (by decide) dX8_letCoresRun_6 ?_
  refine lv_istore_n (lv' := [(2, .int 6), (1, .ref i3), (0, .ref p0)]) hx hb dX8_letCoresRun_7 rfl hl (by decide) rfl (fun ls hl => ?_)
  refine lv_iconst (v := 0) hx hb dX8_letCoresRun_8 (by decide) ?_
  refine lv_istore_n (lv' := [(3, .int 0), (2, .int 6), (1, .ref i3), (0, .ref p0)]) hx hb dX8_letCoresRun_9 rfl hl (by decide) rfl (fun ls hl => ?_)
  have hL10 : ∀ (n : Nat) (H : Heap) (locs : List Loc)   (i6 : Nat) (hi : i6 ≤ 6) (hn : 6 - i6 < n)   (hI : zI D tc (zA [] L s.heap.size) s.heap [] L κ g H locs) (ls : Array Slot) (hl : lv_has ls 6 [(2, .int 6), (1, .ref i3), (0, .ref p0), (3, .int ((nI i6)))]), W p l e (headSpec wsX8_letCoresRun ({ frames := 3, cells := 0, slots := 0, locals := 80 })).room s m ([.ref p0] : List Value).toArray below meth c H locs 0 0 (MQ below (va_Qv (fun (u : zS) => u = (L, κ, g)) (fun (u : zS) (t : State) => zB D tc (zA [] L s.heap.size) [] u t) (zA [] L s.heap.size)) ([.ref p0] : List Value).toArray s 0 0 (zA [] L s.heap.size)) (F0 m 10 ls []) := by
    intro n
    induction n with
    | zero => intro H locs i6 hi hn hI ls hl; exact absurd hn (Nat.not_lt_zero _)
    | succ n ih =>
      intro H locs i6 hi hn hI ls hl
      refine lv_iload_n hx hb dX8_letCoresRun_10 rfl (lv_at hl 3 rfl) ?_
      refine lv_iload_n hx hb dX8_letCoresRun_11 rfl (lv_at hl 0 rfl) ?_
      refine lv_icmp_ge (tgt := 76) hx hb dX8_letCoresRun_12 (by decide) (fun c7 => ?_) (fun c7 => ?_)
      · skip
        have hgec7 : 6 ≤ i6 := z_ge (by omega) (by omega) c7
        exact W.vret hx hb hr (fun t ht hW => ⟨⟨(L, κ, g), rfl, rfl, z_end hK hI ht hW⟩, z_F hI ht⟩) (z_locs hI) dX8_letCoresRun_76
      · skip
        have hltc7 : i6 < 6 := z_lt (by omega) c7
        refine lv_aload_n hx hb dX8_letCoresRun_15 rfl (lv_at hl 1 rfl) ?_
        refine lv_iload_n hx hb dX8_letCoresRun_16 rfl (lv_at hl 3 rfl) ?_
        refine z_aald hM hI hr5 rfl rfl rfl (vp_in_nI (by omega) (by omega)) dX8_letCoresRun_17 (fun x8 hv9 => ?_)
        have hL70 : ∀ (H : Heap) (locs : List Loc)     (hI : zI D tc (zA [] L s.heap.size) s.heap [] L κ g H locs) (ls : Array Slot) (hl : lv_has ls 6 [(2, .int 6), (1, .ref i3), (0, .ref p0), (3, .int ((nI i6)))]), W p l e (headSpec wsX8_letCoresRun ({ frames := 3, cells := 0, slots := 0, locals := 80 })).room s m ([.ref p0] : List Value).toArray below meth c H locs 0 0 (MQ below (va_Qv (fun (u : zS) => u = (L, κ, g)) (fun (u : zS) (t : State) => zB D tc (zA [] L s.heap.size) [] u t) (zA [] L s.heap.size)) ([.ref p0] : List Value).toArray s 0 0 (zA [] L s.heap.size)) (F0 m 70 ls []) := by
          intro H locs hI ls hl
          refine lv_iinc (v := nI (i6 + 1)) (lv' := [(3, .int ((nI (i6 + 1)))), (2, .int 6), (1, .ref i3), (0, .ref p0)]) hx hb dX8_letCoresRun_70 hl (k := 3) rfl (z_inc i6) (by decide) rfl (fun ls hl => ?_)
          refine lv_goto (tgt := 10) hx hb dX8_letCoresRun_73 (by decide) ?_
          exact ih _ _ (i6 + 1) (by first | omega | (simp only [] at *; omega)) (by first | omega | (simp only [] at *; omega)) hI ls (lv_sub hl [1, 2, 3, 0] rfl)
        obtain ⟨hghv9, hn12 | ⟨r10, hn12, hr11⟩⟩ := hv9
        · rw [hn12]
          rw [hn12] at hghv9
          refine lv_astoreN (lv' := [(4, .null), (2, .int 6), (1, .ref i3), (0, .ref p0), (3, .int ((nI i6)))]) hx hb dX8_letCoresRun_18 hl (by decide) rfl (fun ls hl => ?_)
          refine lv_aloadN hx hb dX8_letCoresRun_20 (lv_at hl 0 rfl) ?_
          refine lv_ifnullN (tgt := 70) hx hb dX8_letCoresRun_22 (by decide) ?_
          exact hL70 _ _ hI ls (lv_sub hl [1, 2, 3, 4] rfl)
        · rw [hn12]
          rw [hn12] at hghv9
          refine lv_astore (lv' := [(4, .ref r10), (2, .int 6), (1, .ref i3), (0, .ref p0), (3, .int ((nI i6)))]) hx hb dX8_letCoresRun_18 hl (by decide) rfl (fun ls hl => ?_)
          refine lv_aload hx hb dX8_letCoresRun_20 (lv_at hl 0 rfl) ?_
          refine lv_ifnull hx hb dX8_letCoresRun_22 ?_
          refine lv_aload hx hb dX8_letCoresRun_25 (lv_at hl 0 rfl) ?_
          refine z_cv hI (va_runV (As := []) (rest := []) ⟨hx, hb, hml, hown, hts⟩ (c_X3_setSpeed l _ _ _ _ _ _ _ r10 hr11) (cwV 0 hts gX8_letCoresRun_X3_setSpeed rfl rfl rfl (by decide +kernel) ⟨Nat.le_of_ble_eq_true rfl, Nat.le_of_ble_eq_true rfl⟩) (z_preV hK hE hI [] rfl rfl (z_recv hK hI hr11 rfl rfl)) rfl rfl hl.1 rfl (lv_room (Nat.le_of_ble_eq_true rfl)) dX8_letCoresRun_27 ⟨Nat.le_of_ble_eq_true rfl, Nat.le_of_ble_eq_true rfl⟩) (fun u H locs hw14 hI => ?_)
          obtain rfl := hw14
          refine lv_aload_n hx hb dX8_letCoresRun_30 rfl (lv_at hl 3 rfl) ?_
          refine lv_aload hx hb dX8_letCoresRun_31 (lv_at hl 0 rfl) ?_
          refine z_get (k := 5) (j := 0) hM hI hr11 rfl rfl hinX3 rfl (by decide) (by decide +kernel) (fun _ h9 => h9) dX8_letCoresRun_33 (fun v15 hv16 => ?_)
          obtain ⟨i17, rfl⟩ := hv16
          refine va_csq (W.runV (As := [.int i17]) (rest := []) ⟨hx, hb, hml, hown, hts⟩ (c_X8_runningOn l _ _ _ _ _ _ _ p0 hk0 i17) (cwV 1 hts gX8_letCoresRun_X8_runningOn rfl rfl rfl (by decide +kernel) ⟨Nat.le_of_ble_eq_true rfl, Nat.le_of_ble_eq_true rfl⟩) (z_preV hK hE hI [] rfl rfl (z_recv hK hI hk0 rfl rfl)) rfl rfl hl.1 rfl (lv_room (Nat.le_of_ble_eq_true rfl)) dX8_letCoresRun_36 ⟨Nat.le_of_ble_eq_true rfl, Nat.le_of_ble_eq_true rfl⟩) (fun v18 hw19 => ?_)
          rcases v18 with _ | r20
          · show W p l e (headSpec wsX8_letCoresRun ({ frames := 3, cells := 0, slots := 0, locals := 80 })).room s m ([.ref p0] : List Value).toArray below meth c _ _ _ _ (MQ below (va_Qv (fun (u : zS) => u = (L, κ, g)) (fun (u : zS) (t : State) => zB D tc (zA [] L s.heap.size) [] u t) (zA [] L s.heap.size)) ([.ref p0] : List Value).toArray s 0 0 (zA [] L s.heap.size)) (F0 m 39 ls (.null :: []))
            skip
            refine lv_astoreN (lv' := [(5, .null), (4, .ref r10), (2, .int 6), (1, .ref i3), (0, .ref p0), (3, .int ((nI i6)))]) hx hb dX8_letCoresRun_39 hl (by decide) rfl (fun ls hl => ?_)
            refine lv_aloadN hx hb dX8_letCoresRun_41 (lv_at hl 0 rfl) ?_
            refine lv_ifnullN (tgt := 70) hx hb dX8_letCoresRun_43 (by decide) ?_
            exact hL70 _ _ hI ls (lv_sub hl [2, 3, 4, 5] rfl)
          · show W p l e (headSpec wsX8_letCoresRun ({ frames := 3, cells := 0, slots := 0, locals := 80 })).room s m ([.ref p0] : List Value).toArray below meth c _ _ _ _ (MQ below (va_Qv (fun (u : zS) => u = (L, κ, g)) (fun (u : zS) (t : State) => zB D tc (zA [] L s.heap.size) [] u t) (zA [] L s.heap.size)) ([.ref p0] : List Value).toArray s 0 0 (zA [] L s.heap.size)) (F0 m 39 ls (.ref r20 :: []))
            have hr21 : κ r20 = 9 := hw19 _ rfl
            refine lv_astore (lv' := [(5, .ref r20), (4, .ref r10), (2, .int 6), (1, .ref i3), (0, .ref p0), (3, .int ((nI i6)))]) hx hb dX8_letCoresRun_39 hl (by decide) rfl (fun ls hl => ?_)
            refine lv_aload hx hb dX8_letCoresRun_41 (lv_at hl 0 rfl) ?_
            refine lv_ifnull hx hb dX8_letCoresRun_43 ?_
            refine lv_aload hx hb dX8_letCoresRun_46 (lv_at hl 1 rfl) ?_
            refine z_get (k := 5) (j := 7) hM hI hr11 rfl rfl hinX3 rfl (by decide) (by decide +kernel) (fun _ h9 => h9) dX8_letCoresRun_48 (fun v22 hv23 => ?_)
            obtain ⟨i24, rfl⟩ := hv23
            refine lv_if_le (tgt := 70) hx hb dX8_letCoresRun_51 (by decide) (fun c25 => ?_) (fun c25 => ?_)
            · skip
              exact hL70 _ _ hI ls (lv_sub hl [2, 3, 4, 5] rfl)
            · skip
              refine lv_aload hx hb dX8_letCoresRun_54 (lv_at hl 0 rfl) ?_
              refine lv_aload hx hb dX8_letCoresRun_56 (lv_at hl 1 rfl) ?_
              refine z_get (k := 5) (j := 7) hM hI hr11 rfl rfl hinX3 rfl (by decide) (by decide +kernel) (fun _ h9 => h9) dX8_letCoresRun_58 (fun v26 hv27 => ?_)
              obtain ⟨i28, rfl⟩ := hv27
              refine lv_aload hx hb dX8_letCoresRun_61 (lv_at hl 1 rfl) ?_
              refine vp_callSi (W.runV (As := []) (rest := [.int i28, .ref r20]) ⟨hx, hb, hml, hown, hts⟩ (c_X3_workOfOneSpeed l _ _ _ _ _ _ _ r10 hr11) (cwV 0 hts gX8_letCoresRun_X3_workOfOneSpeed rfl rfl rfl (by decide +kernel) ⟨Nat.le_of_ble_eq_true rfl, Nat.le_of_ble_eq_true rfl⟩) (z_preV hK hE hI [] rfl rfl (z_recv hK hI hr11 rfl rfl)) rfl rfl hl.1 rfl (lv_room (Nat.le_of_ble_eq_true rfl)) dX8_letCoresRun_63 ⟨Nat.le_of_ble_eq_true rfl, Nat.le_of_ble_eq_true rfl⟩) (fun v29 hw30 => ?_)
              refine lv_imul hx hb dX8_letCoresRun_66 ?_
              refine lv_topi (fun v31 e32 => ?_)
              refine z_cv hI (va_runV (As := [.int v31]) (rest := []) ⟨hx, hb, hml, hown, hts⟩ (c_X7_workAt l _ _ _ _ _ _ _ r20 hr21 v31) (cwV 1 hts gX8_letCoresRun_X7_workAt rfl rfl rfl (by decide +kernel) ⟨Nat.le_of_ble_eq_true rfl, Nat.le_of_ble_eq_true rfl⟩) (z_preV hK hE hI [] rfl rfl (z_recv hK hI hr21 rfl rfl)) rfl rfl hl.1 rfl (lv_room (Nat.le_of_ble_eq_true rfl)) dX8_letCoresRun_67 ⟨Nat.le_of_ble_eq_true rfl, Nat.le_of_ble_eq_true rfl⟩) (fun u H locs hw34 hI => ?_)
              obtain rfl := hw34
              exact hL70 _ _ hI ls (lv_sub hl [2, 3, 4, 5] rfl)
  exact hL10 (6 + 1) _ _ 0 (by first | omega | (simp only [] at *; omega)) (by first | omega | (simp only [] at *; omega)) hI ls (lv_sub hl [1, 2, 3, 0] rfl)

set_option maxHeartbeats 4000000 in
set_option maxRecDepth 100000 in
theorem c_X8_heatCores (l : Launch) (D : va_G) (tc : Nat → ClassId) (z0 : Nat) (L : List Nat) (κ : Nat → Nat) (g : Nat → Nat → Value) (sz : Nat) (p0 : Nat) (hk0 : κ p0 = 10) : Met l yX8_heatCores wsX8_heatCores ({ frames := 4, cells := 0, slots := 0, locals := 90 }) (zPc D tc z0 [.ref p0] [] (L, κ, g) sz) (va_Qv (fun (u : zS) => u = (L, κ, g)) (fun (u : zS) (t : State) => zB D tc (zA [] L sz) [] u t) (zA [] L sz)) 0 0 (zA [] L sz) := by
  refine Met.ofW (cc := cX8_heatCores) (maxL := 6) (ret := none) (by decide) rfl ?_
  intro p e s m args below meth c s₁ B hml hv
  obtain ⟨rfl, rfl, hK, hE, hI⟩ := hv.opn
  have hx := B.exec
  have hb := B.bytes
  have hr := B.returns
  have hts := atoms_spec (ws := wsX8_heatCores) B.pre
  have hown : s.vm.findClass RX8 = some m.cls := findClass_of_methodNamed B.named
  have hlocks := B.notSynchronized
  have hM : zM p s m c cX8_heatCores _ wsX8_heatCores RX8 D tc := ⟨hx, hb, hts, hown, hK⟩
  have hinX8 : ∀ w ∈ wsX80, w ∈ wsX8_heatCores := by decide +kernel
  have hinX3 : ∀ w ∈ wsX30, w ∈ wsX8_heatCores := by decide +kernel
  have hl := lv_entry ([.ref p0]) (n := 6) (Nat.le_of_ble_eq_true rfl)
  rw [lg_entry_eq]
  generalize (lg_sl ([.ref p0]) ++ List.replicate (6 - (lg_sl ([.ref p0])).length) Slot.unset).toArray = ls at hl ⊢
  have hl : lv_has ls 6 [(0, .ref p0)] := hl
  refine lv_aload_n hx hb dX8_heatCores_0 rfl (lv_at hl 0 rfl) ?_
  refine z_get (k := 10) (j := 6) hM hI hk0 rfl rfl hinX8 rfl (by decide) (by decide +kernel) (fun _ h9 => h9) dX8_heatCores_1 (fun v1 hv2 => ?_)
  obtain ⟨i3, rfl, hr4⟩ := hv2
  refine lv_iconst (v := 0) hx hb dX8_heatCores_4 (by decide) ?_
  refine z_cv hI (va_runV (As := [.int 0]) (rest := []) ⟨hx, hb, hml, hown, hts⟩ (c_X0_become l _ _ _ _ _ _ _ i3 hr4 0) (cwV 1 hts gX8_heatCores_X0_become rfl rfl rfl (by decide +kernel) ⟨Nat.le_of_ble_eq_true rfl, Nat.le_of_ble_eq_true rfl⟩) (z_preV hK hE hI [] rfl rfl (z_recv hK hI hr4 rfl rfl)) rfl rfl hl.1 rfl (lv_room (Nat.le_of_ble_eq_true rfl)) dX8_heatCores_5 ⟨Nat.le_of_ble_eq_true rfl, Nat.le_of_ble_eq_true rfl⟩) (fun u H locs hw6 hI => ?_)
  obtain rfl := hw6
  refine lv_aload_n hx hb dX8_heatCores_8 rfl (lv_at hl 0 rfl) ?_
  refine z_get (k := 10) (j := 1) hM hI hk0 rfl rfl hinX8 rfl (by decide) (by decide +kernel) (fun _ h9 => h9) dX8_heatCores_9 (fun v7 hv8 => ?_)
  obtain ⟨hg10, i9, rfl, hr11⟩ := hv8
  refine lv_astore_n (lv' := [(1, .ref i9), (0, .ref p0)]) hx hb dX8_heatCores_12 rfl hl (by decide) rfl (fun ls hl => ?_)
  refine lv_aload_n hx hb dX8_heatCores_13 rfl (lv_at hl 0 rfl) ?_
  refine z_alen (v := 6) hM hI hr11 rfl rfl rfl (by decide) dX8_heatCores_14 ?_
  refine lv_istore_n (lv' := [(2, .int 6), (1, .ref i9), (0, .ref p0)]) hx hb dX8_heatCores_15 rfl hl (by decide) rfl (fun ls hl => ?_)
  refine lv_iconst (v := 0) hx hb dX8_heatCores_16 (by decide) ?_
  refine lv_istore_n (lv' := [(3, .int 0), (2, .int 6), (1, .ref i9), (0, .ref p0)]) hx hb dX8_heatCores_17 rfl hl (by decide) rfl (fun ls hl => ?_)
  have hL18 : ∀ (n : Nat) (H : Heap) (locs : List Loc)   (i12 : Nat) (hi : i12 ≤ 6) (hn : 6 - i12 < n)   (hI : zI D tc (zA [] L s.heap.size) s.heap [] L κ g H locs) (ls : Array Slot) (hl : lv_has ls 6 [(2, .int 6), (1, .ref i9), (0, .ref p0), (3, .int ((nI i12)))]), W p l e (headSpec wsX8_heatCores ({ frames := 4, cells := 0, slots := 0, locals := 90 })).room s m ([.ref p0] : List Value).toArray below meth c H locs 0 0 (MQ below (va_Qv (fun (u : zS) => u = (L, κ, g)) (fun (u : zS) (t : State) => zB D tc (zA [] L s.heap.size) [] u t) (zA [] L s.heap.size)) ([.ref p0] : List Value).toArray s 0 0 (zA [] L s.heap.size)) (F0 m 18 ls []) := by
    intro n
    induction n with
    | zero => intro H locs i12 hi hn hI ls hl; exact absurd hn (Nat.not_lt_zero _)
    | succ n ih =>
      intro H locs i12 hi hn hI ls hl
      refine lv_iload_n hx hb dX8_heatCores_18 rfl (lv_at hl 3 rfl) ?_
      refine lv_iload_n hx hb dX8_heatCores_19 rfl (lv_at hl 0 rfl) ?_
      refine lv_icmp_ge (tgt := 110) hx hb dX8_heatCores_20 (by decide) (fun c13 => ?_) (fun c13 => ?_)
      · skip
        have hgec13 : 6 ≤ i12 := z_ge (by omega) (by omega) c13
        exact W.vret hx hb hr (fun t ht hW => ⟨⟨(L, κ, g), rfl, rfl, z_end hK hI ht hW⟩, z_F hI ht⟩) (z_locs hI) dX8_heatCores_110
      · skip
        have hltc13 : i12 < 6 := z_lt (by omega) c13
        refine lv_aload_n hx hb dX8_heatCores_23 rfl (lv_at hl 1 rfl) ?_
        refine lv_iload_n hx hb dX8_heatCores_24 rfl (lv_at hl 3 rfl) ?_
        refine z_aald hM hI hr11 rfl rfl rfl (vp_in_nI (by omega) (by omega)) dX8_heatCores_25 (fun x14 hv15 => ?_)
        have hL104 : ∀ (H : Heap) (locs : List Loc)     (hI : zI D tc (zA [] L s.heap.size) s.heap [] L κ g H locs) (ls : Array Slot) (hl : lv_has ls 6 [(2, .int 6), (1, .ref i9), (0, .ref p0), (3, .int ((nI i12)))]), W p l e (headSpec wsX8_heatCores ({ frames := 4, cells := 0, slots := 0, locals := 90 })).room s m ([.ref p0] : List Value).toArray below meth c H locs 0 0 (MQ below (va_Qv (fun (u : zS) => u = (L, κ, g)) (fun (u : zS) (t : State) => zB D tc (zA [] L s.heap.size) [] u t) (zA [] L s.heap.size)) ([.ref p0] : List Value).toArray s 0 0 (zA [] L s.heap.size)) (F0 m 104 ls []) := by
          intro H locs hI ls hl
          refine lv_iinc (v := nI (i12 + 1)) (lv' := [(3, .int ((nI (i12 + 1)))), (2, .int 6), (1, .ref i9), (0, .ref p0)]) hx hb dX8_heatCores_104 hl (k := 3) rfl (z_inc i12) (by decide) rfl (fun ls hl => ?_)
          refine lv_goto (tgt := 18) hx hb dX8_heatCores_107 (by decide) ?_
          exact ih _ _ (i12 + 1) (by first | omega | (simp only [] at *; omega)) (by first | omega | (simp only [] at *; omega)) hI ls (lv_sub hl [1, 2, 3, 0] rfl)
        obtain ⟨hghv15, hn18 | ⟨r16, hn18, hr17⟩⟩ := hv15
        · rw [hn18]
          rw [hn18] at hghv15
          refine lv_astoreN (lv' := [(4, .null), (2, .int 6), (1, .ref i9), (0, .ref p0), (3, .int ((nI i12)))]) hx hb dX8_heatCores_26 hl (by decide) rfl (fun ls hl => ?_)
          refine lv_aloadN hx hb dX8_heatCores_28 (lv_at hl 0 rfl) ?_
          refine lv_ifnullN (tgt := 104) hx hb dX8_heatCores_30 (by decide) ?_
          exact hL104 _ _ hI ls (lv_sub hl [1, 2, 3, 4] rfl)
        · rw [hn18]
          rw [hn18] at hghv15
          refine lv_astore (lv' := [(4, .ref r16), (2, .int 6), (1, .ref i9), (0, .ref p0), (3, .int ((nI i12)))]) hx hb dX8_heatCores_26 hl (by decide) rfl (fun ls hl => ?_)
          refine lv_aload hx hb dX8_heatCores_28 (lv_at hl 0 rfl) ?_
          refine lv_ifnull hx hb dX8_heatCores_30 ?_
          refine lv_aload hx hb dX8_heatCores_33 (lv_at hl 0 rfl) ?_
          refine vp_callSi (W.runV (As := []) (rest := []) ⟨hx, hb, hml, hown, hts⟩ (c_X3_powerOfSpeed l _ _ _ _ _ _ _ r16 hr17) (cwV 0 hts gX8_heatCores_X3_powerOfSpeed rfl rfl rfl (by decide +kernel) ⟨Nat.le_of_ble_eq_true rfl, Nat.le_of_ble_eq_true rfl⟩) (z_preV hK hE hI [] rfl rfl (z_recv hK hI hr17 rfl rfl)) rfl rfl hl.1 rfl (lv_room (Nat.le_of_ble_eq_true rfl)) dX8_heatCores_35 ⟨Nat.le_of_ble_eq_true rfl, Nat.le_of_ble_eq_true rfl⟩) (fun v19 hw20 => ?_)
          refine lv_istore (lv' := [(5, .int v19), (4, .ref r16), (2, .int 6), (1, .ref i9), (0, .ref p0), (3, .int ((nI i12)))]) hx hb dX8_heatCores_38 hl (by decide) rfl (fun ls hl => ?_)
          refine lv_aload hx hb dX8_heatCores_40 (lv_at hl 1 rfl) ?_
          refine lv_aload_n hx hb dX8_heatCores_42 rfl (lv_at hl 4 rfl) ?_
          refine z_get (k := 10) (j := 7) hM hI hk0 rfl rfl hinX8 rfl (by decide) (by decide +kernel) (fun _ h9 => h9) dX8_heatCores_43 (fun v21 hv22 => ?_)
          obtain ⟨i23, rfl, hr24⟩ := hv22
          refine z_cv hI (va_runV (As := [.ref i23]) (rest := []) ⟨hx, hb, hml, hown, hts⟩ (c_X3_tellLeak l _ _ _ _ _ _ _ r16 hr17 i23 hr24) (cwV 1 hts gX8_heatCores_X3_tellLeak rfl rfl rfl (by decide +kernel) ⟨Nat.le_of_ble_eq_true rfl, Nat.le_of_ble_eq_true rfl⟩) (z_preV hK hE hI [] rfl rfl (z_recv hK hI hr17 rfl rfl)) rfl rfl hl.1 rfl (lv_room (Nat.le_of_ble_eq_true rfl)) dX8_heatCores_46 ⟨Nat.le_of_ble_eq_true rfl, Nat.le_of_ble_eq_true rfl⟩) (fun u H locs hw26 hI => ?_)
          obtain rfl := hw26
          refine lv_aload hx hb dX8_heatCores_49 (lv_at hl 1 rfl) ?_
          refine z_get (k := 5) (j := 15) hM hI hr17 rfl rfl hinX3 rfl (by decide) (by decide +kernel) (fun _ h9 => h9) dX8_heatCores_51 (fun v27 hv28 => ?_)
          obtain ⟨i29, rfl, hr30⟩ := hv28
          refine lv_aload_n hx hb dX8_heatCores_54 rfl (lv_at hl 4 rfl) ?_
          refine z_get (k := 10) (j := 7) hM hI hk0 rfl rfl hinX8 rfl (by decide) (by decide +kernel) (fun _ h9 => h9) dX8_heatCores_55 (fun v31 hv32 => ?_)
          obtain ⟨i33, rfl, hr34⟩ := hv32
          refine z_cv hI (va_runV (As := [.ref i33]) (rest := []) ⟨hx, hb, hml, hown, hts⟩ (c_X1_gain l _ _ _ _ _ _ _ i29 hr30 i33 hr34) (cwV 1 hts gX8_heatCores_X1_gain rfl rfl rfl (by decide +kernel) ⟨Nat.le_of_ble_eq_true rfl, Nat.le_of_ble_eq_true rfl⟩) (z_preV hK hE hI [] rfl rfl (z_recv hK hI hr30 rfl rfl)) rfl rfl hl.1 rfl (lv_room (Nat.le_of_ble_eq_true rfl)) dX8_heatCores_58 ⟨Nat.le_of_ble_eq_true rfl, Nat.le_of_ble_eq_true rfl⟩) (fun u H locs hw36 hI => ?_)
          obtain rfl := hw36
          refine lv_aload_n hx hb dX8_heatCores_61 rfl (lv_at hl 4 rfl) ?_
          refine z_get (k := 10) (j := 6) hM hI hk0 rfl rfl hinX8 rfl (by decide) (by decide +kernel) (fun _ h9 => h9) dX8_heatCores_62 (fun v37 hv38 => ?_)
          obtain ⟨i39, rfl, hr40⟩ := hv38
          refine lv_aload_n hx hb dX8_heatCores_65 rfl (lv_at hl 4 rfl) ?_
          refine z_get (k := 10) (j := 7) hM hI hk0 rfl rfl hinX8 rfl (by decide) (by decide +kernel) (fun _ h9 => h9) dX8_heatCores_66 (fun v41 hv42 => ?_)
          obtain ⟨i43, rfl, hr44⟩ := hv42
          refine z_cv hI (va_runV (As := [.ref i43]) (rest := []) ⟨hx, hb, hml, hown, hts⟩ (c_X0_add l _ _ _ _ _ _ _ i39 hr40 i43 hr44) (cwV 1 hts gX8_heatCores_X0_add rfl rfl rfl (by decide +kernel) ⟨Nat.le_of_ble_eq_true rfl, Nat.le_of_ble_eq_true rfl⟩) (z_preV hK hE hI [] rfl rfl (z_recv hK hI hr40 rfl rfl)) rfl rfl hl.1 rfl (lv_room (Nat.le_of_ble_eq_true rfl)) dX8_heatCores_69 ⟨Nat.le_of_ble_eq_true rfl, Nat.le_of_ble_eq_true rfl⟩) (fun u H locs hw46 hI => ?_)
          obtain rfl := hw46
          refine lv_aload_n hx hb dX8_heatCores_72 rfl (lv_at hl 4 rfl) ?_
          refine z_get (k := 10) (j := 7) hM hI hk0 rfl rfl hinX8 rfl (by decide) (by decide +kernel) (fun _ h9 => h9) dX8_heatCores_73 (fun v47 hv48 => ?_)
          obtain ⟨i49, rfl, hr50⟩ := hv48
          refine lv_iload hx hb dX8_heatCores_76 (lv_at hl 0 rfl) ?_
          refine z_cv hI (va_runV (As := [.int v19]) (rest := []) ⟨hx, hb, hml, hown, hts⟩ (c_X0_become l _ _ _ _ _ _ _ i49 hr50 v19) (cwV 1 hts gX8_heatCores_X0_become rfl rfl rfl (by decide +kernel) ⟨Nat.le_of_ble_eq_true rfl, Nat.le_of_ble_eq_true rfl⟩) (z_preV hK hE hI [] rfl rfl (z_recv hK hI hr50 rfl rfl)) rfl rfl hl.1 rfl (lv_room (Nat.le_of_ble_eq_true rfl)) dX8_heatCores_78 ⟨Nat.le_of_ble_eq_true rfl, Nat.le_of_ble_eq_true rfl⟩) (fun u H locs hw52 hI => ?_)
          obtain rfl := hw52
          refine lv_aload hx hb dX8_heatCores_81 (lv_at hl 1 rfl) ?_
          refine z_get (k := 5) (j := 15) hM hI hr17 rfl rfl hinX3 rfl (by decide) (by decide +kernel) (fun _ h9 => h9) dX8_heatCores_83 (fun v53 hv54 => ?_)
          obtain ⟨i55, rfl, hr56⟩ := hv54
          refine lv_aload_n hx hb dX8_heatCores_86 rfl (lv_at hl 4 rfl) ?_
          refine z_get (k := 10) (j := 7) hM hI hk0 rfl rfl hinX8 rfl (by decide) (by decide +kernel) (fun _ h9 => h9) dX8_heatCores_87 (fun v57 hv58 => ?_)
          obtain ⟨i59, rfl, hr60⟩ := hv58
          refine z_cv hI (va_runV (As := [.ref i59]) (rest := []) ⟨hx, hb, hml, hown, hts⟩ (c_X1_gain l _ _ _ _ _ _ _ i55 hr56 i59 hr60) (cwV 1 hts gX8_heatCores_X1_gain rfl rfl rfl (by decide +kernel) ⟨Nat.le_of_ble_eq_true rfl, Nat.le_of_ble_eq_true rfl⟩) (z_preV hK hE hI [] rfl rfl (z_recv hK hI hr56 rfl rfl)) rfl rfl hl.1 rfl (lv_room (Nat.le_of_ble_eq_true rfl)) dX8_heatCores_90 ⟨Nat.le_of_ble_eq_true rfl, Nat.le_of_ble_eq_true rfl⟩) (fun u H locs hw62 hI => ?_)
          obtain rfl := hw62
          refine lv_aload_n hx hb dX8_heatCores_93 rfl (lv_at hl 4 rfl) ?_
          refine z_get (k := 10) (j := 6) hM hI hk0 rfl rfl hinX8 rfl (by decide) (by decide +kernel) (fun _ h9 => h9) dX8_heatCores_94 (fun v63 hv64 => ?_)
          obtain ⟨i65, rfl, hr66⟩ := hv64
          refine lv_aload_n hx hb dX8_heatCores_97 rfl (lv_at hl 4 rfl) ?_
          refine z_get (k := 10) (j := 7) hM hI hk0 rfl rfl hinX8 rfl (by decide) (by decide +kernel) (fun _ h9 => h9) dX8_heatCores_98 (fun v67 hv68 => ?_)
          obtain ⟨i69, rfl, hr70⟩ := hv68
          refine z_cv hI (va_runV (As := [.ref i69]) (rest := []) ⟨hx, hb, hml, hown, hts⟩ (c_X0_add l _ _ _ _ _ _ _ i65 hr66 i69 hr70) (cwV 1 hts gX8_heatCores_X0_add rfl rfl rfl (by decide +kernel) ⟨Nat.le_of_ble_eq_true rfl, Nat.le_of_ble_eq_true rfl⟩) (z_preV hK hE hI [] rfl rfl (z_recv hK hI hr66 rfl rfl)) rfl rfl hl.1 rfl (lv_room (Nat.le_of_ble_eq_true rfl)) dX8_heatCores_101 ⟨Nat.le_of_ble_eq_true rfl, Nat.le_of_ble_eq_true rfl⟩) (fun u H locs hw72 hI => ?_)
          obtain rfl := hw72
          exact hL104 _ _ hI ls (lv_sub hl [2, 3, 4, 5] rfl)
  exact hL18 (6 + 1) _ _ 0 (by first | omega | (simp only [] at *; omega)) (by first | omega | (simp only [] at *; omega)) hI ls (lv_sub hl [1, 2, 3, 0] rfl)

set_option maxHeartbeats 4000000 in
set_option maxRecDepth 100000 in
theorem c_X8_flowToCase (l : Launch) (D : va_G) (tc : Nat → ClassId) (z0 : Nat) (L : List Nat) (κ : Nat → Nat) (g : Nat → Nat → Value) (sz : Nat) (p0 : Nat) (hk0 : κ p0 = 10) : Met l yX8_flowToCase wsX8_flowToCase ({ frames := 4, cells := 0, slots := 0, locals := 89 }) (zPc D tc z0 [.ref p0] [] (L, κ, g) sz) (va_Qv (fun (u : zS) => u = (L, κ, g)) (fun (u : zS) (t : State) => zB D tc (zA [] L sz) [] u t) (zA [] L sz)) 0 0 (zA [] L sz) := by
  refine Met.ofW (cc := cX8_flowToCase) (maxL := 8) (ret := none) (by decide) rfl ?_
  intro p e s m args below meth c s₁ B hml hv
  obtain ⟨rfl, rfl, hK, hE, hI⟩ := hv.opn
  have hx := B.exec
  have hb := B.bytes
  have hr := B.returns
  have hts := atoms_spec (ws := wsX8_flowToCase) B.pre
  have hown : s.vm.findClass RX8 = some m.cls := findClass_of_methodNamed B.named
  have hlocks := B.notSynchronized
  have hM : zM p s m c cX8_flowToCase _ wsX8_flowToCase RX8 D tc := ⟨hx, hb, hts, hown, hK⟩
  have hinX8 : ∀ w ∈ wsX80, w ∈ wsX8_flowToCase := by decide +kernel
  have hinX3 : ∀ w ∈ wsX30, w ∈ wsX8_flowToCase := by decide +kernel
  have hinX1 : ∀ w ∈ wsX10, w ∈ wsX8_flowToCase := by decide +kernel
  have hinX2 : ∀ w ∈ wsX20, w ∈ wsX8_flowToCase := by decide +kernel
  have hl := lv_entry ([.ref p0]) (n := 8) (Nat.le_of_ble_eq_true rfl)
  rw [lg_entry_eq]
  generalize (lg_sl ([.ref p0]) ++ List.replicate (8 - (lg_sl ([.ref p0])).length) Slot.unset).toArray = ls at hl ⊢
  have hl : lv_has ls 8 [(0, .ref p0)] := hl
  refine lv_aload_n hx hb dX8_flowToCase_0 rfl (lv_at hl 0 rfl) ?_
  refine z_get (k := 10) (j := 1) hM hI hk0 rfl rfl hinX8 rfl (by decide) (by decide +kernel) (fun _ h9 => h9) dX8_flowToCase_1 (fun v1 hv2 => ?_)
  obtain ⟨hg4, i3, rfl, hr5⟩ := hv2
  refine lv_astore_n (lv' := [(1, .ref i3), (0, .ref p0)]) hx hb dX8_flowToCase_4 rfl hl (by decide) rfl (fun ls hl => ?_)
  refine lv_aload_n hx hb dX8_flowToCase_5 rfl (lv_at hl 0 rfl) ?_
  refine z_alen (v := 6) hM hI hr5 rfl rfl rfl (by decide) dX8_flowToCase_6 ?_
  refine lv_istore_n (lv' := [(2, .int 6), (1, .ref i3), (0, .ref p0)]) hx hb dX8_flowToCase_7 rfl hl (by decide) rfl (fun ls hl => ?_)
  refine lv_iconst (v := 0) hx hb dX8_flowToCase_8 (by decide) ?_
  refine lv_istore_n (lv' := [(3, .int 0), (2, .int 6), (1, .ref i3), (0, .ref p0)]) hx hb dX8_flowToCase_9 rfl hl (by decide) rfl (fun ls hl => ?_)
  have hL10 : ∀ (n : Nat) (H : Heap) (locs : List Loc)   (i6 : Nat) (hi : i6 ≤ 6) (hn : 6 - i6 < n)   (hI : zI D tc (zA [] L s.heap.size) s.heap [] L κ g H locs) (ls : Array Slot) (hl : lv_has ls 8 [(2, .int 6), (1, .ref i3), (0, .ref p0), (3, .int ((nI i6)))]), W p l e (headSpec wsX8_flowToCase ({ frames := 4, cells := 0, slots := 0, locals := 89 })).room s m ([.ref p0] : List Value).toArray below meth c H locs 0 0 (MQ below (va_Qv (fun (u : zS) => u = (L, κ, g)) (fun (u : zS) (t : State) => zB D tc (zA [] L s.heap.size) [] u t) (zA [] L s.heap.size)) ([.ref p0] : List Value).toArray s 0 0 (zA [] L s.heap.size)) (F0 m 10 ls []) := by
    intro n
    induction n with
    | zero => intro H locs i6 hi hn hI ls hl; exact absurd hn (Nat.not_lt_zero _)
    | succ n ih =>
      intro H locs i6 hi hn hI ls hl
      refine lv_iload_n hx hb dX8_flowToCase_10 rfl (lv_at hl 3 rfl) ?_
      refine lv_iload_n hx hb dX8_flowToCase_11 rfl (lv_at hl 0 rfl) ?_
      refine lv_icmp_ge (tgt := 140) hx hb dX8_flowToCase_12 (by decide) (fun c7 => ?_) (fun c7 => ?_)
      · skip
        have hgec7 : 6 ≤ i6 := z_ge (by omega) (by omega) c7
        exact W.vret hx hb hr (fun t ht hW => ⟨⟨(L, κ, g), rfl, rfl, z_end hK hI ht hW⟩, z_F hI ht⟩) (z_locs hI) dX8_flowToCase_140
      · skip
        have hltc7 : i6 < 6 := z_lt (by omega) c7
        refine lv_aload_n hx hb dX8_flowToCase_15 rfl (lv_at hl 1 rfl) ?_
        refine lv_iload_n hx hb dX8_flowToCase_16 rfl (lv_at hl 3 rfl) ?_
        refine z_aald hM hI hr5 rfl rfl rfl (vp_in_nI (by omega) (by omega)) dX8_flowToCase_17 (fun x8 hv9 => ?_)
        have hL134 : ∀ (H : Heap) (locs : List Loc)     (hI : zI D tc (zA [] L s.heap.size) s.heap [] L κ g H locs) (ls : Array Slot) (hl : lv_has ls 8 [(2, .int 6), (1, .ref i3), (0, .ref p0), (3, .int ((nI i6)))]), W p l e (headSpec wsX8_flowToCase ({ frames := 4, cells := 0, slots := 0, locals := 89 })).room s m ([.ref p0] : List Value).toArray below meth c H locs 0 0 (MQ below (va_Qv (fun (u : zS) => u = (L, κ, g)) (fun (u : zS) (t : State) => zB D tc (zA [] L s.heap.size) [] u t) (zA [] L s.heap.size)) ([.ref p0] : List Value).toArray s 0 0 (zA [] L s.heap.size)) (F0 m 134 ls []) := by
          intro H locs hI ls hl
          refine lv_iinc (v := nI (i6 + 1)) (lv' := [(3, .int ((nI (i6 + 1)))), (2, .int 6), (1, .ref i3), (0, .ref p0)]) hx hb dX8_flowToCase_134 hl (k := 3) rfl (z_inc i6) (by decide) rfl (fun ls hl => ?_)
          refine lv_goto (tgt := 10) hx hb dX8_flowToCase_137 (by decide) ?_
          exact ih _ _ (i6 + 1) (by first | omega | (simp only [] at *; omega)) (by first | omega | (simp only [] at *; omega)) hI ls (lv_sub hl [1, 2, 3, 0] rfl)
        obtain ⟨hghv9, hn12 | ⟨r10, hn12, hr11⟩⟩ := hv9
        · rw [hn12]
          rw [hn12] at hghv9
          refine lv_astoreN (lv' := [(4, .null), (2, .int 6), (1, .ref i3), (0, .ref p0), (3, .int ((nI i6)))]) hx hb dX8_flowToCase_18 hl (by decide) rfl (fun ls hl => ?_)
          refine lv_aloadN hx hb dX8_flowToCase_20 (lv_at hl 0 rfl) ?_
          refine lv_ifnullN (tgt := 134) hx hb dX8_flowToCase_22 (by decide) ?_
          exact hL134 _ _ hI ls (lv_sub hl [1, 2, 3, 4] rfl)
        · rw [hn12]
          rw [hn12] at hghv9
          refine lv_astore (lv' := [(4, .ref r10), (2, .int 6), (1, .ref i3), (0, .ref p0), (3, .int ((nI i6)))]) hx hb dX8_flowToCase_18 hl (by decide) rfl (fun ls hl => ?_)
          refine lv_aload hx hb dX8_flowToCase_20 (lv_at hl 0 rfl) ?_
          refine lv_ifnull hx hb dX8_flowToCase_22 ?_
          refine lv_aload hx hb dX8_flowToCase_25 (lv_at hl 0 rfl) ?_
          refine z_get (k := 5) (j := 15) hM hI hr11 rfl rfl hinX3 rfl (by decide) (by decide +kernel) (fun _ h9 => h9) dX8_flowToCase_27 (fun v13 hv14 => ?_)
          obtain ⟨i15, rfl, hr16⟩ := hv14
          refine z_get (k := 3) (j := 2) hM hI hr16 rfl rfl hinX1 rfl (by decide) (by decide +kernel) (fun _ h9 => h9) dX8_flowToCase_30 (fun v17 hv18 => ?_)
          obtain ⟨i19, rfl, hr20⟩ := hv18
          refine lv_aload_n hx hb dX8_flowToCase_33 rfl (lv_at hl 3 rfl) ?_
          refine z_get (k := 10) (j := 3) hM hI hk0 rfl rfl hinX8 rfl (by decide) (by decide +kernel) (fun _ h9 => h9) dX8_flowToCase_34 (fun v21 hv22 => ?_)
          obtain ⟨hg24, i23, rfl, hr25⟩ := hv22
          refine z_get (k := 4) (j := 0) hM hI hr25 rfl rfl hinX2 rfl (by decide) (by decide +kernel) (fun _ h9 => h9) dX8_flowToCase_37 (fun v26 hv27 => ?_)
          obtain ⟨i28, rfl, hr29⟩ := hv27
          refine z_get (k := 3) (j := 2) hM hI hr29 rfl rfl hinX1 rfl (by decide) (by decide +kernel) (fun _ h9 => h9) dX8_flowToCase_40 (fun v30 hv31 => ?_)
          obtain ⟨i32, rfl, hr33⟩ := hv31
          refine vp_callSi (W.runV (As := [.ref i32]) (rest := []) ⟨hx, hb, hml, hown, hts⟩ (c_X0_isLess l _ _ _ _ _ _ _ i19 hr20 i32 hr33) (cwV 1 hts gX8_flowToCase_X0_isLess rfl rfl rfl (by decide +kernel) ⟨Nat.le_of_ble_eq_true rfl, Nat.le_of_ble_eq_true rfl⟩) (z_preV hK hE hI [] rfl rfl (z_recv hK hI hr20 rfl rfl)) rfl rfl hl.1 rfl (lv_room (Nat.le_of_ble_eq_true rfl)) dX8_flowToCase_43 ⟨Nat.le_of_ble_eq_true rfl, Nat.le_of_ble_eq_true rfl⟩) (fun v34 hw35 => ?_)
          refine lv_istore (lv' := [(5, .int v34), (4, .ref r10), (2, .int 6), (1, .ref i3), (0, .ref p0), (3, .int ((nI i6)))]) hx hb dX8_flowToCase_46 hl (by decide) rfl (fun ls hl => ?_)
          refine lv_iload hx hb dX8_flowToCase_48 (lv_at hl 0 rfl) ?_
          refine lv_if_eq (tgt := 63) hx hb dX8_flowToCase_50 (by decide) (fun c36 => ?_) (fun c36 => ?_)
          · skip
            refine lv_aload hx hb dX8_flowToCase_63 (lv_at hl 1 rfl) ?_
            refine z_get (k := 5) (j := 15) hM hI hr11 rfl rfl hinX3 rfl (by decide) (by decide +kernel) (fun _ h9 => h9) dX8_flowToCase_65 (fun v37 hv38 => ?_)
            obtain ⟨i39, rfl, hr40⟩ := hv38
            refine lv_astore (lv' := [(6, .ref i39), (5, .int v34), (4, .ref r10), (2, .int 6), (1, .ref i3), (0, .ref p0), (3, .int ((nI i6)))]) hx hb dX8_flowToCase_68 hl (by decide) rfl (fun ls hl => ?_)
            refine lv_iload hx hb dX8_flowToCase_70 (lv_at hl 1 rfl) ?_
            refine lv_if_eq (tgt := 83) hx hb dX8_flowToCase_72 (by decide) (fun c41 => ?_) (fun c41 => ?_)
            · skip
              refine lv_aload_n hx hb dX8_flowToCase_83 rfl (lv_at hl 5 rfl) ?_
              refine z_get (k := 10) (j := 3) hM hI hk0 rfl rfl hinX8 rfl (by decide) (by decide +kernel) (fun _ h9 => h9) dX8_flowToCase_84 (fun v42 hv43 => ?_)
              obtain ⟨hg45, i44, rfl, hr46⟩ := hv43
              refine z_get (k := 4) (j := 0) hM hI hr46 rfl rfl hinX2 rfl (by decide) (by decide +kernel) (fun _ h9 => h9) dX8_flowToCase_87 (fun v47 hv48 => ?_)
              obtain ⟨i49, rfl, hr50⟩ := hv48
              refine lv_astore (lv' := [(7, .ref i49), (6, .ref i39), (5, .int v34), (4, .ref r10), (2, .int 6), (1, .ref i3), (0, .ref p0), (3, .int ((nI i6)))]) hx hb dX8_flowToCase_90 hl (by decide) rfl (fun ls hl => ?_)
              refine lv_aload_n hx hb dX8_flowToCase_92 rfl (lv_at hl 6 rfl) ?_
              refine z_get (k := 10) (j := 7) hM hI hk0 rfl rfl hinX8 rfl (by decide) (by decide +kernel) (fun _ h9 => h9) dX8_flowToCase_93 (fun v51 hv52 => ?_)
              obtain ⟨i53, rfl, hr54⟩ := hv52
              refine lv_aload hx hb dX8_flowToCase_96 (lv_at hl 1 rfl) ?_
              refine z_get (k := 3) (j := 2) hM hI hr40 rfl rfl hinX1 rfl (by decide) (by decide +kernel) (fun _ h9 => h9) dX8_flowToCase_98 (fun v55 hv56 => ?_)
              obtain ⟨i57, rfl, hr58⟩ := hv56
              refine z_cv hI (va_runV (As := [.ref i57]) (rest := []) ⟨hx, hb, hml, hown, hts⟩ (c_X0_becomeSame l _ _ _ _ _ _ _ i53 hr54 i57 hr58) (cwV 1 hts gX8_flowToCase_X0_becomeSame rfl rfl rfl (by decide +kernel) ⟨Nat.le_of_ble_eq_true rfl, Nat.le_of_ble_eq_true rfl⟩) (z_preV hK hE hI [] rfl rfl (z_recv hK hI hr54 rfl rfl)) rfl rfl hl.1 rfl (lv_room (Nat.le_of_ble_eq_true rfl)) dX8_flowToCase_101 ⟨Nat.le_of_ble_eq_true rfl, Nat.le_of_ble_eq_true rfl⟩) (fun u H locs hw60 hI => ?_)
              obtain rfl := hw60
              refine lv_aload_n hx hb dX8_flowToCase_104 rfl (lv_at hl 6 rfl) ?_
              refine z_get (k := 10) (j := 7) hM hI hk0 rfl rfl hinX8 rfl (by decide) (by decide +kernel) (fun _ h9 => h9) dX8_flowToCase_105 (fun v61 hv62 => ?_)
              obtain ⟨i63, rfl, hr64⟩ := hv62
              refine lv_aload hx hb dX8_flowToCase_108 (lv_at hl 0 rfl) ?_
              refine z_get (k := 3) (j := 2) hM hI hr50 rfl rfl hinX1 rfl (by decide) (by decide +kernel) (fun _ h9 => h9) dX8_flowToCase_110 (fun v65 hv66 => ?_)
              obtain ⟨i67, rfl, hr68⟩ := hv66
              refine z_cv hI (va_runV (As := [.ref i67]) (rest := []) ⟨hx, hb, hml, hown, hts⟩ (c_X0_takeAway l _ _ _ _ _ _ _ i63 hr64 i67 hr68) (cwV 1 hts gX8_flowToCase_X0_takeAway rfl rfl rfl (by decide +kernel) ⟨Nat.le_of_ble_eq_true rfl, Nat.le_of_ble_eq_true rfl⟩) (z_preV hK hE hI [] rfl rfl (z_recv hK hI hr64 rfl rfl)) rfl rfl hl.1 rfl (lv_room (Nat.le_of_ble_eq_true rfl)) dX8_flowToCase_113 ⟨Nat.le_of_ble_eq_true rfl, Nat.le_of_ble_eq_true rfl⟩) (fun u H locs hw70 hI => ?_)
              obtain rfl := hw70
              refine lv_aload hx hb dX8_flowToCase_116 (lv_at hl 1 rfl) ?_
              refine lv_aload_n hx hb dX8_flowToCase_118 rfl (lv_at hl 6 rfl) ?_
              refine z_get (k := 10) (j := 7) hM hI hk0 rfl rfl hinX8 rfl (by decide) (by decide +kernel) (fun _ h9 => h9) dX8_flowToCase_119 (fun v71 hv72 => ?_)
              obtain ⟨i73, rfl, hr74⟩ := hv72
              refine z_cv hI (va_runV (As := [.ref i73]) (rest := []) ⟨hx, hb, hml, hown, hts⟩ (c_X1_giveAway l _ _ _ _ _ _ _ i39 hr40 i73 hr74) (cwV 1 hts gX8_flowToCase_X1_giveAway rfl rfl rfl (by decide +kernel) ⟨Nat.le_of_ble_eq_true rfl, Nat.le_of_ble_eq_true rfl⟩) (z_preV hK hE hI [] rfl rfl (z_recv hK hI hr40 rfl rfl)) rfl rfl hl.1 rfl (lv_room (Nat.le_of_ble_eq_true rfl)) dX8_flowToCase_122 ⟨Nat.le_of_ble_eq_true rfl, Nat.le_of_ble_eq_true rfl⟩) (fun u H locs hw76 hI => ?_)
              obtain rfl := hw76
              refine lv_aload hx hb dX8_flowToCase_125 (lv_at hl 0 rfl) ?_
              refine lv_aload_n hx hb dX8_flowToCase_127 rfl (lv_at hl 6 rfl) ?_
              refine z_get (k := 10) (j := 7) hM hI hk0 rfl rfl hinX8 rfl (by decide) (by decide +kernel) (fun _ h9 => h9) dX8_flowToCase_128 (fun v77 hv78 => ?_)
              obtain ⟨i79, rfl, hr80⟩ := hv78
              refine z_cv hI (va_runV (As := [.ref i79]) (rest := []) ⟨hx, hb, hml, hown, hts⟩ (c_X1_gain l _ _ _ _ _ _ _ i49 hr50 i79 hr80) (cwV 1 hts gX8_flowToCase_X1_gain rfl rfl rfl (by decide +kernel) ⟨Nat.le_of_ble_eq_true rfl, Nat.le_of_ble_eq_true rfl⟩) (z_preV hK hE hI [] rfl rfl (z_recv hK hI hr50 rfl rfl)) rfl rfl hl.1 rfl (lv_room (Nat.le_of_ble_eq_true rfl)) dX8_flowToCase_131 ⟨Nat.le_of_ble_eq_true rfl, Nat.le_of_ble_eq_true rfl⟩) (fun u H locs hw82 hI => ?_)
              obtain rfl := hw82
              exact hL134 _ _ hI ls (lv_sub hl [4, 5, 6, 7] rfl)
            · skip
              refine lv_aload hx hb dX8_flowToCase_75 (lv_at hl 2 rfl) ?_
              refine z_get (k := 5) (j := 15) hM hI hr11 rfl rfl hinX3 rfl (by decide) (by decide +kernel) (fun _ h9 => h9) dX8_flowToCase_77 (fun v83 hv84 => ?_)
              obtain ⟨i85, rfl, hr86⟩ := hv84
              refine lv_goto (tgt := 90) hx hb dX8_flowToCase_80 (by decide) ?_
              refine lv_astore (lv' := [(7, .ref i85), (6, .ref i39), (5, .int v34), (4, .ref r10), (2, .int 6), (1, .ref i3), (0, .ref p0), (3, .int ((nI i6)))]) hx hb dX8_flowToCase_90 hl (by decide) rfl (fun ls hl => ?_)
              refine lv_aload_n hx hb dX8_flowToCase_92 rfl (lv_at hl 6 rfl) ?_
              refine z_get (k := 10) (j := 7) hM hI hk0 rfl rfl hinX8 rfl (by decide) (by decide +kernel) (fun _ h9 => h9) dX8_flowToCase_93 (fun v87 hv88 => ?_)
              obtain ⟨i89, rfl, hr90⟩ := hv88
              refine lv_aload hx hb dX8_flowToCase_96 (lv_at hl 1 rfl) ?_
              refine z_get (k := 3) (j := 2) hM hI hr40 rfl rfl hinX1 rfl (by decide) (by decide +kernel) (fun _ h9 => h9) dX8_flowToCase_98 (fun v91 hv92 => ?_)
              obtain ⟨i93, rfl, hr94⟩ := hv92
              refine z_cv hI (va_runV (As := [.ref i93]) (rest := []) ⟨hx, hb, hml, hown, hts⟩ (c_X0_becomeSame l _ _ _ _ _ _ _ i89 hr90 i93 hr94) (cwV 1 hts gX8_flowToCase_X0_becomeSame rfl rfl rfl (by decide +kernel) ⟨Nat.le_of_ble_eq_true rfl, Nat.le_of_ble_eq_true rfl⟩) (z_preV hK hE hI [] rfl rfl (z_recv hK hI hr90 rfl rfl)) rfl rfl hl.1 rfl (lv_room (Nat.le_of_ble_eq_true rfl)) dX8_flowToCase_101 ⟨Nat.le_of_ble_eq_true rfl, Nat.le_of_ble_eq_true rfl⟩) (fun u H locs hw96 hI => ?_)
              obtain rfl := hw96
              refine lv_aload_n hx hb dX8_flowToCase_104 rfl (lv_at hl 6 rfl) ?_
              refine z_get (k := 10) (j := 7) hM hI hk0 rfl rfl hinX8 rfl (by decide) (by decide +kernel) (fun _ h9 => h9) dX8_flowToCase_105 (fun v97 hv98 => ?_)
              obtain ⟨i99, rfl, hr100⟩ := hv98
              refine lv_aload hx hb dX8_flowToCase_108 (lv_at hl 0 rfl) ?_
              refine z_get (k := 3) (j := 2) hM hI hr86 rfl rfl hinX1 rfl (by decide) (by decide +kernel) (fun _ h9 => h9) dX8_flowToCase_110 (fun v101 hv102 => ?_)
              obtain ⟨i103, rfl, hr104⟩ := hv102
              refine z_cv hI (va_runV (As := [.ref i103]) (rest := []) ⟨hx, hb, hml, hown, hts⟩ (c_X0_takeAway l _ _ _ _ _ _ _ i99 hr100 i103 hr104) (cwV 1 hts gX8_flowToCase_X0_takeAway rfl rfl rfl (by decide +kernel) ⟨Nat.le_of_ble_eq_true rfl, Nat.le_of_ble_eq_true rfl⟩) (z_preV hK hE hI [] rfl rfl (z_recv hK hI hr100 rfl rfl)) rfl rfl hl.1 rfl (lv_room (Nat.le_of_ble_eq_true rfl)) dX8_flowToCase_113 ⟨Nat.le_of_ble_eq_true rfl, Nat.le_of_ble_eq_true rfl⟩) (fun u H locs hw106 hI => ?_)
              obtain rfl := hw106
              refine lv_aload hx hb dX8_flowToCase_116 (lv_at hl 1 rfl) ?_
              refine lv_aload_n hx hb dX8_flowToCase_118 rfl (lv_at hl 6 rfl) ?_
              refine z_get (k := 10) (j := 7) hM hI hk0 rfl rfl hinX8 rfl (by decide) (by decide +kernel) (fun _ h9 => h9) dX8_flowToCase_119 (fun v107 hv108 => ?_)
              obtain ⟨i109, rfl, hr110⟩ := hv108
              refine z_cv hI (va_runV (As := [.ref i109]) (rest := []) ⟨hx, hb, hml, hown, hts⟩ (c_X1_giveAway l _ _ _ _ _ _ _ i39 hr40 i109 hr110) (cwV 1 hts gX8_flowToCase_X1_giveAway rfl rfl rfl (by decide +kernel) ⟨Nat.le_of_ble_eq_true rfl, Nat.le_of_ble_eq_true rfl⟩) (z_preV hK hE hI [] rfl rfl (z_recv hK hI hr40 rfl rfl)) rfl rfl hl.1 rfl (lv_room (Nat.le_of_ble_eq_true rfl)) dX8_flowToCase_122 ⟨Nat.le_of_ble_eq_true rfl, Nat.le_of_ble_eq_true rfl⟩) (fun u H locs hw112 hI => ?_)
              obtain rfl := hw112
              refine lv_aload hx hb dX8_flowToCase_125 (lv_at hl 0 rfl) ?_
              refine lv_aload_n hx hb dX8_flowToCase_127 rfl (lv_at hl 6 rfl) ?_
              refine z_get (k := 10) (j := 7) hM hI hk0 rfl rfl hinX8 rfl (by decide) (by decide +kernel) (fun _ h9 => h9) dX8_flowToCase_128 (fun v113 hv114 => ?_)
              obtain ⟨i115, rfl, hr116⟩ := hv114
              refine z_cv hI (va_runV (As := [.ref i115]) (rest := []) ⟨hx, hb, hml, hown, hts⟩ (c_X1_gain l _ _ _ _ _ _ _ i85 hr86 i115 hr116) (cwV 1 hts gX8_flowToCase_X1_gain rfl rfl rfl (by decide +kernel) ⟨Nat.le_of_ble_eq_true rfl, Nat.le_of_ble_eq_true rfl⟩) (z_preV hK hE hI [] rfl rfl (z_recv hK hI hr86 rfl rfl)) rfl rfl hl.1 rfl (lv_room (Nat.le_of_ble_eq_true rfl)) dX8_flowToCase_131 ⟨Nat.le_of_ble_eq_true rfl, Nat.le_of_ble_eq_true rfl⟩) (fun u H locs hw118 hI => ?_)
              obtain rfl := hw118
              exact hL134 _ _ hI ls (lv_sub hl [4, 5, 6, 7] rfl)
          · skip
            refine lv_aload_n hx hb dX8_flowToCase_53 rfl (lv_at hl 4 rfl) ?_
            refine z_get (k := 10) (j := 3) hM hI hk0 rfl rfl hinX8 rfl (by decide) (by decide +kernel) (fun _ h9 => h9) dX8_flowToCase_54 (fun v119 hv120 => ?_)
            obtain ⟨hg122, i121, rfl, hr123⟩ := hv120
            refine z_get (k := 4) (j := 0) hM hI hr123 rfl rfl hinX2 rfl (by decide) (by decide +kernel) (fun _ h9 => h9) dX8_flowToCase_57 (fun v124 hv125 => ?_)
            obtain ⟨i126, rfl, hr127⟩ := hv125
            refine lv_goto (tgt := 68) hx hb dX8_flowToCase_60 (by decide) ?_
            refine lv_astore (lv' := [(6, .ref i126), (5, .int v34), (4, .ref r10), (2, .int 6), (1, .ref i3), (0, .ref p0), (3, .int ((nI i6)))]) hx hb dX8_flowToCase_68 hl (by decide) rfl (fun ls hl => ?_)
            refine lv_iload hx hb dX8_flowToCase_70 (lv_at hl 1 rfl) ?_
            refine lv_if_eq (tgt := 83) hx hb dX8_flowToCase_72 (by decide) (fun c128 => ?_) (fun c128 => ?_)
            · skip
              refine lv_aload_n hx hb dX8_flowToCase_83 rfl (lv_at hl 5 rfl) ?_
              refine z_get (k := 10) (j := 3) hM hI hk0 rfl rfl hinX8 rfl (by decide) (by decide +kernel) (fun _ h9 => h9) dX8_flowToCase_84 (fun v129 hv130 => ?_)
              obtain ⟨hg132, i131, rfl, hr133⟩ := hv130
              refine z_get (k := 4) (j := 0) hM hI hr133 rfl rfl hinX2 rfl (by decide) (by decide +kernel) (fun _ h9 => h9) dX8_flowToCase_87 (fun v134 hv135 => ?_)
              obtain ⟨i136, rfl, hr137⟩ := hv135
              refine lv_astore (lv' := [(7, .ref i136), (6, .ref i126), (5, .int v34), (4, .ref r10), (2, .int 6), (1, .ref i3), (0, .ref p0), (3, .int ((nI i6)))]) hx hb dX8_flowToCase_90 hl (by decide) rfl (fun ls hl => ?_)
              refine lv_aload_n hx hb dX8_flowToCase_92 rfl (lv_at hl 6 rfl) ?_
              refine z_get (k := 10) (j := 7) hM hI hk0 rfl rfl hinX8 rfl (by decide) (by decide +kernel) (fun _ h9 => h9) dX8_flowToCase_93 (fun v138 hv139 => ?_)
              obtain ⟨i140, rfl, hr141⟩ := hv139
              refine lv_aload hx hb dX8_flowToCase_96 (lv_at hl 1 rfl) ?_
              refine z_get (k := 3) (j := 2) hM hI hr127 rfl rfl hinX1 rfl (by decide) (by decide +kernel) (fun _ h9 => h9) dX8_flowToCase_98 (fun v142 hv143 => ?_)
              obtain ⟨i144, rfl, hr145⟩ := hv143
              refine z_cv hI (va_runV (As := [.ref i144]) (rest := []) ⟨hx, hb, hml, hown, hts⟩ (c_X0_becomeSame l _ _ _ _ _ _ _ i140 hr141 i144 hr145) (cwV 1 hts gX8_flowToCase_X0_becomeSame rfl rfl rfl (by decide +kernel) ⟨Nat.le_of_ble_eq_true rfl, Nat.le_of_ble_eq_true rfl⟩) (z_preV hK hE hI [] rfl rfl (z_recv hK hI hr141 rfl rfl)) rfl rfl hl.1 rfl (lv_room (Nat.le_of_ble_eq_true rfl)) dX8_flowToCase_101 ⟨Nat.le_of_ble_eq_true rfl, Nat.le_of_ble_eq_true rfl⟩) (fun u H locs hw147 hI => ?_)
              obtain rfl := hw147
              refine lv_aload_n hx hb dX8_flowToCase_104 rfl (lv_at hl 6 rfl) ?_
              refine z_get (k := 10) (j := 7) hM hI hk0 rfl rfl hinX8 rfl (by decide) (by decide +kernel) (fun _ h9 => h9) dX8_flowToCase_105 (fun v148 hv149 => ?_)
              obtain ⟨i150, rfl, hr151⟩ := hv149
              refine lv_aload hx hb dX8_flowToCase_108 (lv_at hl 0 rfl) ?_
              refine z_get (k := 3) (j := 2) hM hI hr137 rfl rfl hinX1 rfl (by decide) (by decide +kernel) (fun _ h9 => h9) dX8_flowToCase_110 (fun v152 hv153 => ?_)
              obtain ⟨i154, rfl, hr155⟩ := hv153
              refine z_cv hI (va_runV (As := [.ref i154]) (rest := []) ⟨hx, hb, hml, hown, hts⟩ (c_X0_takeAway l _ _ _ _ _ _ _ i150 hr151 i154 hr155) (cwV 1 hts gX8_flowToCase_X0_takeAway rfl rfl rfl (by decide +kernel) ⟨Nat.le_of_ble_eq_true rfl, Nat.le_of_ble_eq_true rfl⟩) (z_preV hK hE hI [] rfl rfl (z_recv hK hI hr151 rfl rfl)) rfl rfl hl.1 rfl (lv_room (Nat.le_of_ble_eq_true rfl)) dX8_flowToCase_113 ⟨Nat.le_of_ble_eq_true rfl, Nat.le_of_ble_eq_true rfl⟩) (fun u H locs hw157 hI => ?_)
              obtain rfl := hw157
              refine lv_aload hx hb dX8_flowToCase_116 (lv_at hl 1 rfl) ?_
              refine lv_aload_n hx hb dX8_flowToCase_118 rfl (lv_at hl 6 rfl) ?_
              refine z_get (k := 10) (j := 7) hM hI hk0 rfl rfl hinX8 rfl (by decide) (by decide +kernel) (fun _ h9 => h9) dX8_flowToCase_119 (fun v158 hv159 => ?_)
              obtain ⟨i160, rfl, hr161⟩ := hv159
              refine z_cv hI (va_runV (As := [.ref i160]) (rest := []) ⟨hx, hb, hml, hown, hts⟩ (c_X1_giveAway l _ _ _ _ _ _ _ i126 hr127 i160 hr161) (cwV 1 hts gX8_flowToCase_X1_giveAway rfl rfl rfl (by decide +kernel) ⟨Nat.le_of_ble_eq_true rfl, Nat.le_of_ble_eq_true rfl⟩) (z_preV hK hE hI [] rfl rfl (z_recv hK hI hr127 rfl rfl)) rfl rfl hl.1 rfl (lv_room (Nat.le_of_ble_eq_true rfl)) dX8_flowToCase_122 ⟨Nat.le_of_ble_eq_true rfl, Nat.le_of_ble_eq_true rfl⟩) (fun u H locs hw163 hI => ?_)
              obtain rfl := hw163
              refine lv_aload hx hb dX8_flowToCase_125 (lv_at hl 0 rfl) ?_
              refine lv_aload_n hx hb dX8_flowToCase_127 rfl (lv_at hl 6 rfl) ?_
              refine z_get (k := 10) (j := 7) hM hI hk0 rfl rfl hinX8 rfl (by decide) (by decide +kernel) (fun _ h9 => h9) dX8_flowToCase_128 (fun v164 hv165 => ?_)
              obtain ⟨i166, rfl, hr167⟩ := hv165
              refine z_cv hI (va_runV (As := [.ref i166]) (rest := []) ⟨hx, hb, hml, hown, hts⟩ (c_X1_gain l _ _ _ _ _ _ _ i136 hr137 i166 hr167) (cwV 1 hts gX8_flowToCase_X1_gain rfl rfl rfl (by decide +kernel) ⟨Nat.le_of_ble_eq_true rfl, Nat.le_of_ble_eq_true rfl⟩) (z_preV hK hE hI [] rfl rfl (z_recv hK hI hr137 rfl rfl)) rfl rfl hl.1 rfl (lv_room (Nat.le_of_ble_eq_true rfl)) dX8_flowToCase_131 ⟨Nat.le_of_ble_eq_true rfl, Nat.le_of_ble_eq_true rfl⟩) (fun u H locs hw169 hI => ?_)
              obtain rfl := hw169
              exact hL134 _ _ hI ls (lv_sub hl [4, 5, 6, 7] rfl)
            · skip
              refine lv_aload hx hb dX8_flowToCase_75 (lv_at hl 2 rfl) ?_
              refine z_get (k := 5) (j := 15) hM hI hr11 rfl rfl hinX3 rfl (by decide) (by decide +kernel) (fun _ h9 => h9) dX8_flowToCase_77 (fun v170 hv171 => ?_)
              obtain ⟨i172, rfl, hr173⟩ := hv171
              refine lv_goto (tgt := 90) hx hb dX8_flowToCase_80 (by decide) ?_
              refine lv_astore (lv' := [(7, .ref i172), (6, .ref i126), (5, .int v34), (4, .ref r10), (2, .int 6), (1, .ref i3), (0, .ref p0), (3, .int ((nI i6)))]) hx hb dX8_flowToCase_90 hl (by decide) rfl (fun ls hl => ?_)
              refine lv_aload_n hx hb dX8_flowToCase_92 rfl (lv_at hl 6 rfl) ?_
              refine z_get (k := 10) (j := 7) hM hI hk0 rfl rfl hinX8 rfl (by decide) (by decide +kernel) (fun _ h9 => h9) dX8_flowToCase_93 (fun v174 hv175 => ?_)
              obtain ⟨i176, rfl, hr177⟩ := hv175
              refine lv_aload hx hb dX8_flowToCase_96 (lv_at hl 1 rfl) ?_
              refine z_get (k := 3) (j := 2) hM hI hr127 rfl rfl hinX1 rfl (by decide) (by decide +kernel) (fun _ h9 => h9) dX8_flowToCase_98 (fun v178 hv179 => ?_)
              obtain ⟨i180, rfl, hr181⟩ := hv179
              refine z_cv hI (va_runV (As := [.ref i180]) (rest := []) ⟨hx, hb, hml, hown, hts⟩ (c_X0_becomeSame l _ _ _ _ _ _ _ i176 hr177 i180 hr181) (cwV 1 hts gX8_flowToCase_X0_becomeSame rfl rfl rfl (by decide +kernel) ⟨Nat.le_of_ble_eq_true rfl, Nat.le_of_ble_eq_true rfl⟩) (z_preV hK hE hI [] rfl rfl (z_recv hK hI hr177 rfl rfl)) rfl rfl hl.1 rfl (lv_room (Nat.le_of_ble_eq_true rfl)) dX8_flowToCase_101 ⟨Nat.le_of_ble_eq_true rfl, Nat.le_of_ble_eq_true rfl⟩) (fun u H locs hw183 hI => ?_)
              obtain rfl := hw183
              refine lv_aload_n hx hb dX8_flowToCase_104 rfl (lv_at hl 6 rfl) ?_
              refine z_get (k := 10) (j := 7) hM hI hk0 rfl rfl hinX8 rfl (by decide) (by decide +kernel) (fun _ h9 => h9) dX8_flowToCase_105 (fun v184 hv185 => ?_)
              obtain ⟨i186, rfl, hr187⟩ := hv185
              refine lv_aload hx hb dX8_flowToCase_108 (lv_at hl 0 rfl) ?_
              refine z_get (k := 3) (j := 2) hM hI hr173 rfl rfl hinX1 rfl (by decide) (by decide +kernel) (fun _ h9 => h9) dX8_flowToCase_110 (fun v188 hv189 => ?_)
              obtain ⟨i190, rfl, hr191⟩ := hv189
              refine z_cv hI (va_runV (As := [.ref i190]) (rest := []) ⟨hx, hb, hml, hown, hts⟩ (c_X0_takeAway l _ _ _ _ _ _ _ i186 hr187 i190 hr191) (cwV 1 hts gX8_flowToCase_X0_takeAway rfl rfl rfl (by decide +kernel) ⟨Nat.le_of_ble_eq_true rfl, Nat.le_of_ble_eq_true rfl⟩) (z_preV hK hE hI [] rfl rfl (z_recv hK hI hr187 rfl rfl)) rfl rfl hl.1 rfl (lv_room (Nat.le_of_ble_eq_true rfl)) dX8_flowToCase_113 ⟨Nat.le_of_ble_eq_true rfl, Nat.le_of_ble_eq_true rfl⟩) (fun u H locs hw193 hI => ?_)
              obtain rfl := hw193
              refine lv_aload hx hb dX8_flowToCase_116 (lv_at hl 1 rfl) ?_
              refine lv_aload_n hx hb dX8_flowToCase_118 rfl (lv_at hl 6 rfl) ?_
              refine z_get (k := 10) (j := 7) hM hI hk0 rfl rfl hinX8 rfl (by decide) (by decide +kernel) (fun _ h9 => h9) dX8_flowToCase_119 (fun v194 hv195 => ?_)
              obtain ⟨i196, rfl, hr197⟩ := hv195
              refine z_cv hI (va_runV (As := [.ref i196]) (rest := []) ⟨hx, hb, hml, hown, hts⟩ (c_X1_giveAway l _ _ _ _ _ _ _ i126 hr127 i196 hr197) (cwV 1 hts gX8_flowToCase_X1_giveAway rfl rfl rfl (by decide +kernel) ⟨Nat.le_of_ble_eq_true rfl, Nat.le_of_ble_eq_true rfl⟩) (z_preV hK hE hI [] rfl rfl (z_recv hK hI hr127 rfl rfl)) rfl rfl hl.1 rfl (lv_room (Nat.le_of_ble_eq_true rfl)) dX8_flowToCase_122 ⟨Nat.le_of_ble_eq_true rfl, Nat.le_of_ble_eq_true rfl⟩) (fun u H locs hw199 hI => ?_)
              obtain rfl := hw199
              refine lv_aload hx hb dX8_flowToCase_125 (lv_at hl 0 rfl) ?_
              refine lv_aload_n hx hb dX8_flowToCase_127 rfl (lv_at hl 6 rfl) ?_
              refine z_get (k := 10) (j := 7) hM hI hk0 rfl rfl hinX8 rfl (by decide) (by decide +kernel) (fun _ h9 => h9) dX8_flowToCase_128 (fun v200 hv201 => ?_)
              obtain ⟨i202, rfl, hr203⟩ := hv201
              refine z_cv hI (va_runV (As := [.ref i202]) (rest := []) ⟨hx, hb, hml, hown, hts⟩ (c_X1_gain l _ _ _ _ _ _ _ i172 hr173 i202 hr203) (cwV 1 hts gX8_flowToCase_X1_gain rfl rfl rfl (by decide +kernel) ⟨Nat.le_of_ble_eq_true rfl, Nat.le_of_ble_eq_true rfl⟩) (z_preV hK hE hI [] rfl rfl (z_recv hK hI hr173 rfl rfl)) rfl rfl hl.1 rfl (lv_room (Nat.le_of_ble_eq_true rfl)) dX8_flowToCase_131 ⟨Nat.le_of_ble_eq_true rfl, Nat.le_of_ble_eq_true rfl⟩) (fun u H locs hw205 hI => ?_)
              obtain rfl := hw205
              exact hL134 _ _ hI ls (lv_sub hl [4, 5, 6, 7] rfl)
  exact hL10 (6 + 1) _ _ 0 (by first | omega | (simp only [] at *; omega)) (by first | omega | (simp only [] at *; omega)) hI ls (lv_sub hl [1, 2, 3, 0] rfl)

