set_option maxHeartbeats 4000000 in
set_option maxRecDepth 100000 in
theorem c_L_core (l : Launch) (hnt : l.stackTraces = false) (D : va_G) (tc : Nat → ClassId) (z0 : Nat) (L : List Nat) (κ : Nat → Nat) (g : Nat → Nat → Value) (sz : Nat) (p0 : Nat) (hk0 : κ p0 = 10) (p1 : Int32) (p2 : Int32) (po : Nat) (hko : κ po = 29) (aC : Nat) (hC : g p0 1 = .ref aC) : vx_Met l yL_core wsL_core ({ frames := 8, cells := 7, slots := 65, locals := 144 }) (zPc D tc z0 [.ref p0, .int p1, .int p2, .ref po] [] (L, κ, g) sz) (va_Qi (fun (r : Int32) (u : zS) => (r = 0 ∧ ∃ (r1 : Int32) (u1 : zS) (v9 : Int64), (∃ i q : Nat, i < 6 ∧ r1 = nI i ∧ vp_in p1 3 ∧ (p2 = 115 ∨ p2 = 98) ∧ (∀ j : Nat, j < i → g aC j ≠ .null) ∧ g aC i = .null ∧ u1.2.1 q = 5 ∧ zExt κ (zup g aC i (.ref q)) u1.2.1 u1.2.2 ∧ u1.2.2 q 3 = .int 108 ∧ u1.2.2 q 17 = .int 0 ∧ ∀ b, κ b < 99 → b ≠ q) ∧ v9 = r1.toInt64 ∧ u = (u1.1, u1.2.1, zup u1.2.2 po 0 (.long v9))) ∨ (r = 1 ∧ ((("java/lang/IndexOutOfBoundsException" = "java/lang/IndexOutOfBoundsException" ∧ ¬ vp_in p1 3) ∨ ("java/lang/IndexOutOfBoundsException" = "java/lang/IllegalArgumentException" ∧ vp_in p1 3 ∧ ¬ p2 = 115 ∧ ¬ p2 = 98) ∨ ("java/lang/IndexOutOfBoundsException" = "java/lang/IllegalStateException" ∧ vp_in p1 3 ∧ (p2 = 115 ∨ p2 = 98) ∧ ∀ j : Nat, j < 6 → g aC j ≠ .null)) ∧ u = (L, κ, g))) ∨ (r = 2 ∧ ((("java/lang/IllegalArgumentException" = "java/lang/IndexOutOfBoundsException" ∧ ¬ vp_in p1 3) ∨ ("java/lang/IllegalArgumentException" = "java/lang/IllegalArgumentException" ∧ vp_in p1 3 ∧ ¬ p2 = 115 ∧ ¬ p2 = 98) ∨ ("java/lang/IllegalArgumentException" = "java/lang/IllegalStateException" ∧ vp_in p1 3 ∧ (p2 = 115 ∨ p2 = 98) ∧ ∀ j : Nat, j < 6 → g aC j ≠ .null)) ∧ u = (L, κ, g))) ∨ (r = 3 ∧ ((("java/lang/IllegalStateException" = "java/lang/IndexOutOfBoundsException" ∧ ¬ vp_in p1 3) ∨ ("java/lang/IllegalStateException" = "java/lang/IllegalArgumentException" ∧ vp_in p1 3 ∧ ¬ p2 = 115 ∧ ¬ p2 = 98) ∨ ("java/lang/IllegalStateException" = "java/lang/IllegalStateException" ∧ vp_in p1 3 ∧ (p2 = 115 ∨ p2 = 98) ∧ ∀ j : Nat, j < 6 → g aC j ≠ .null)) ∧ u = (L, κ, g)))) (fun (u : zS) (t : State) => zB D tc (zA [] L sz) [] u t) (zA [] L sz)) (vx_X (fun u : zS => True) (fun (E : String) (u : zS) (t : State) => (False) ∧ zB D tc (zA [] L sz) [] u t) (zA [] L sz)) 7 65 (zA [] L sz) := by
  refine vx_ofWH (cc := cL_core) (maxL := 5) (ret := (some .int)) (hh := [(0, 10, 13, 13), (0, 10, 17, 15), (0, 10, 21, 17)]) (by decide) rfl ?_
  intro p e s m args below meth c s₁ B hml hv
  obtain ⟨rfl, rfl, hK, hE, hI⟩ := hv.opn
  have hx := B.exec
  have hb := B.bytes
  have hr := B.returns
  have hts := atoms_spec (ws := wsL_core) B.pre
  have hown : s.vm.findClass RL = some m.cls := findClass_of_methodNamed B.named
  have hlocks := B.notSynchronized
  have htab := vx_table (x := yL_core) B (hts (.codeWith yL_core cL_core 5 (some .int) [(0, 10, 13, 13), (0, 10, 17, 15), (0, 10, 21, 17)]) List.mem_cons_self)
  have hM : zM p s m c cL_core _ wsL_core RL D tc := ⟨hx, hb, hts, hown, hK⟩
  have hl := lv_entry ([.ref p0, .int p1, .int p2, .ref po]) (n := 5) (Nat.le_of_ble_eq_true rfl)
  rw [lg_entry_eq]
  generalize (lg_sl ([.ref p0, .int p1, .int p2, .ref po]) ++ List.replicate (5 - (lg_sl ([.ref p0, .int p1, .int p2, .ref po])).length) Slot.unset).toArray = ls at hl ⊢
  have hl : lv_has ls 5 [(0, .ref p0), (1, .int p1), (2, .int p2), (3, .ref po)] := hl
  refine lv_aload_n hx hb dL_core_0 rfl (lv_at hl 3 rfl) ?_
  refine lv_iconst (v := 0) hx hb dL_core_1 (by decide) ?_
  refine lv_aload_n hx hb dL_core_2 rfl (lv_at hl 0 rfl) ?_
  refine lv_iload_n hx hb dL_core_3 rfl (lv_at hl 1 rfl) ?_
  refine lv_iload_n hx hb dL_core_4 rfl (lv_at hl 2 rfl) ?_
  refine z_xi hI (vx_runV (As := [.int p1, .int p2]) (rest := [.int 0, .ref po]) ⟨hx, hb, hml, hown, hts⟩ (c_X8_core l hnt _ _ _ _ _ _ _ p0 hk0 p1 p2 aC hC) (cwV 2 hts gL_core_X8_core rfl rfl rfl (by decide +kernel) ⟨Nat.le_of_ble_eq_true rfl, Nat.le_of_ble_eq_true rfl⟩) (z_preV hK hE hI [] rfl rfl (z_recv hK hI hk0 rfl rfl)) rfl rfl hl.1 rfl (lv_room (Nat.le_of_ble_eq_true rfl)) dL_core_5 ⟨Nat.le_of_ble_eq_true rfl, Nat.le_of_ble_eq_true rfl⟩) (fun E ce q9 u H locs hw hI he1 he2 he3 => ?_) (fun v u H locs hw hI => ?_)
  · have hw : ((E = "java/lang/IndexOutOfBoundsException" ∧ ¬ vp_in p1 3) ∨ (E = "java/lang/IllegalArgumentException" ∧ vp_in p1 3 ∧ ¬ p2 = 115 ∧ ¬ p2 = 98) ∨ (E = "java/lang/IllegalStateException" ∧ vp_in p1 3 ∧ (p2 = 115 ∨ p2 = 98) ∧ ∀ j : Nat, j < 6 → g aC j ≠ .null)) ∧ u = (L, κ, g) := hw
    by_cases hE0 : E = "java/lang/IndexOutOfBoundsException"
    · subst hE0
      refine vx_catch (name := "java/lang/IndexOutOfBoundsException") hown [] ⟨0, 10, 13, 13⟩ [⟨0, 10, 17, 15⟩, ⟨0, 10, 21, 17⟩] htab (fun z hz => nomatch hz) (by decide) (by decide) (hts (.classLink RL 13 "java/lang/IndexOutOfBoundsException") (by decide +kernel)) (va_Nw.use rfl (hE.1 (.castable "java/lang/IndexOutOfBoundsException" "java/lang/IndexOutOfBoundsException") (by decide +kernel) rfl)) he1 he2 he3 ?_
      show W p l e _ s m _ below meth c H locs _ _ _ (F0 m 13 ls [.ref q9])
      refine lv_astore (lv' := [(4, .ref q9), (0, .ref p0), (1, .int p1), (2, .int p2), (3, .ref po)]) hx hb dL_core_13 hl (by decide) rfl (fun ls hl => ?_)
      refine lv_iconst (v := 1) hx hb dL_core_15 (by decide) ?_
      refine vx_ret ?_
      exact W.iret (v := 1) hx hb hr (fun t ht hW => ⟨⟨_, u, rfl, (Or.inr (Or.inl ⟨rfl, hw⟩)), z_endG hK hI ht hW⟩, z_F hI ht⟩) (z_locs hI) dL_core_16
    · skip
      by_cases hE1 : E = "java/lang/IllegalArgumentException"
      · subst hE1
        refine vx_catch (name := "java/lang/IllegalArgumentException") hown [⟨0, 10, 13, 13⟩] ⟨0, 10, 17, 15⟩ [⟨0, 10, 21, 17⟩] htab (List.forall_mem_cons.mpr ⟨Or.inr ⟨by decide, "java/lang/IndexOutOfBoundsException", hts (.classLink RL 13 "java/lang/IndexOutOfBoundsException") (by decide +kernel), hE.2.2.2.1 ("java/lang/IllegalArgumentException", "java/lang/IndexOutOfBoundsException") (by decide +kernel)⟩, (fun _ h => absurd h List.not_mem_nil)⟩) (by decide) (by decide) (hts (.classLink RL 15 "java/lang/IllegalArgumentException") (by decide +kernel)) (va_Nw.use rfl (hE.1 (.castable "java/lang/IllegalArgumentException" "java/lang/IllegalArgumentException") (by decide +kernel) rfl)) he1 he2 he3 ?_
        show W p l e _ s m _ below meth c H locs _ _ _ (F0 m 17 ls [.ref q9])
        refine lv_astore (lv' := [(4, .ref q9), (0, .ref p0), (1, .int p1), (2, .int p2), (3, .ref po)]) hx hb dL_core_17 hl (by decide) rfl (fun ls hl => ?_)
        refine lv_iconst (v := 2) hx hb dL_core_19 (by decide) ?_
        refine vx_ret ?_
        exact W.iret (v := 2) hx hb hr (fun t ht hW => ⟨⟨_, u, rfl, (Or.inr (Or.inr (Or.inl ⟨rfl, hw⟩))), z_endG hK hI ht hW⟩, z_F hI ht⟩) (z_locs hI) dL_core_20
      · skip
        by_cases hE2 : E = "java/lang/IllegalStateException"
        · subst hE2
          refine vx_catch (name := "java/lang/IllegalStateException") hown [⟨0, 10, 13, 13⟩, ⟨0, 10, 17, 15⟩] ⟨0, 10, 21, 17⟩ [] htab (List.forall_mem_cons.mpr ⟨Or.inr ⟨by decide, "java/lang/IndexOutOfBoundsException", hts (.classLink RL 13 "java/lang/IndexOutOfBoundsException") (by decide +kernel), hE.2.2.2.1 ("java/lang/IllegalStateException", "java/lang/IndexOutOfBoundsException") (by decide +kernel)⟩, List.forall_mem_cons.mpr ⟨Or.inr ⟨by decide, "java/lang/IllegalArgumentException", hts (.classLink RL 15 "java/lang/IllegalArgumentException") (by decide +kernel), hE.2.2.2.1 ("java/lang/IllegalStateException", "java/lang/IllegalArgumentException") (by decide +kernel)⟩, (fun _ h => absurd h List.not_mem_nil)⟩⟩) (by decide) (by decide) (hts (.classLink RL 17 "java/lang/IllegalStateException") (by decide +kernel)) (va_Nw.use rfl (hE.1 (.castable "java/lang/IllegalStateException" "java/lang/IllegalStateException") (by decide +kernel) rfl)) he1 he2 he3 ?_
          show W p l e _ s m _ below meth c H locs _ _ _ (F0 m 21 ls [.ref q9])
          refine lv_astore (lv' := [(4, .ref q9), (0, .ref p0), (1, .int p1), (2, .int p2), (3, .ref po)]) hx hb dL_core_21 hl (by decide) rfl (fun ls hl => ?_)
          refine lv_iconst (v := 3) hx hb dL_core_23 (by decide) ?_
          refine vx_ret ?_
          exact W.iret (v := 3) hx hb hr (fun t ht hW => ⟨⟨_, u, rfl, (Or.inr (Or.inr (Or.inr ⟨rfl, hw⟩))), z_endG hK hI ht hW⟩, z_F hI ht⟩) (z_locs hI) dL_core_24
        · skip
          exact absurd hw (by simp [hE0, hE1, hE2])
  obtain ⟨L1, κ1, g1⟩ := u
  have hw : ∃ i q : Nat, i < 6 ∧ v = nI i ∧ vp_in p1 3 ∧ (p2 = 115 ∨ p2 = 98) ∧ (∀ j : Nat, j < i → g aC j ≠ .null) ∧ g aC i = .null ∧ (L1, κ1, g1).2.1 q = 5 ∧ zExt κ (zup g aC i (.ref q)) (L1, κ1, g1).2.1 (L1, κ1, g1).2.2 ∧ (L1, κ1, g1).2.2 q 3 = .int 108 ∧ (L1, κ1, g1).2.2 q 17 = .int 0 ∧ ∀ b, κ b < 99 → b ≠ q := hw
  have hko1 : κ1 po = 29 := by obtain ⟨_, _, _, _, _, _, _, _, _, hx9, _⟩ := hw; exact (hx9.k (a := po) hko (by decide))
  refine lv_i2l hx hb dL_core_8 rfl ?_
  refine lv_topl (fun w9 ew9 => ?_)
  refine z_last (g' := zup g1 po (0 : Int32).toNatClampNeg (.long w9)) hM hI hko1 rfl rfl (vp_in_c 0 1 (by decide)) ⟨(zup_self _ _ _ _).symm, _, rfl⟩ (fun b j h => zup_ne h) dL_core_9 (fun H locs hI => ?_)
  refine lv_goto (tgt := 25) hx hb dL_core_10 (by decide) ?_
  refine lv_iconst (v := 0) hx hb dL_core_25 (by decide) ?_
  refine vx_ret ?_
  exact W.iret (v := 0) hx hb hr (fun t ht hW => ⟨⟨_, (L1, κ1, zup g1 po 0 (.long w9)), rfl, Or.inl ⟨rfl, v, (L1, κ1, g1), w9, hw, ew9, rfl⟩, z_endG hK hI ht hW⟩, z_F hI ht⟩) (z_locs hI) dL_core_26

set_option maxHeartbeats 4000000 in
set_option maxRecDepth 100000 in
theorem c_L_thread (l : Launch) (hnt : l.stackTraces = false) (D : va_G) (tc : Nat → ClassId) (z0 : Nat) (L : List Nat) (κ : Nat → Nat) (g : Nat → Nat → Value) (sz : Nat) (p0 : Nat) (hk0 : κ p0 = 10) (p1 : Int32) (p2 : Int32) (p3 : Int32) (po : Nat) (hko : κ po = 29) (aC : Nat) (hC : g p0 1 = .ref aC) (aT : Nat) (hT : g p0 2 = .ref aT) : vx_Met l yL_thread wsL_thread ({ frames := 8, cells := 2, slots := 12, locals := 144 }) (zPc D tc z0 [.ref p0, .int p1, .int p2, .int p3, .ref po] [] (L, κ, g) sz) (va_Qi (fun (r : Int32) (u : zS) => (r = 0 ∧ ∃ (r1 : Int32) (u1 : zS) (v9 : Int64), (∃ i q : Nat, i < 8 ∧ r1 = nI i ∧ zHas g aC 6 p1 ∧ (1 ≤ p2 ∧ p2 ≤ 99999 ∧ 0 ≤ p3 ∧ p3 ≤ 9) ∧ (∀ j : Nat, j < i → g aT j ≠ .null) ∧ g aT i = .null ∧ u1.2.1 q = 9 ∧ zExt κ (zup g aT i (.ref q)) u1.2.1 u1.2.2 ∧ u1.2.2 q 1 = .int p1 ∧ ∀ b, κ b < 99 → b ≠ q) ∧ v9 = r1.toInt64 ∧ u = (u1.1, u1.2.1, zup u1.2.2 po 0 (.long v9))) ∨ (r = 1 ∧ ((("java/lang/IndexOutOfBoundsException" = "java/lang/IndexOutOfBoundsException" ∧ ¬ zHas g aC 6 p1) ∨ ("java/lang/IndexOutOfBoundsException" = "java/lang/IllegalArgumentException" ∧ zHas g aC 6 p1 ∧ ¬ (1 ≤ p2 ∧ p2 ≤ 99999 ∧ 0 ≤ p3 ∧ p3 ≤ 9)) ∨ ("java/lang/IndexOutOfBoundsException" = "java/lang/IllegalStateException" ∧ zHas g aC 6 p1 ∧ (1 ≤ p2 ∧ p2 ≤ 99999 ∧ 0 ≤ p3 ∧ p3 ≤ 9) ∧ ∀ j : Nat, j < 8 → g aT j ≠ .null)) ∧ u = (L, κ, g))) ∨ (r = 2 ∧ ((("java/lang/IllegalArgumentException" = "java/lang/IndexOutOfBoundsException" ∧ ¬ zHas g aC 6 p1) ∨ ("java/lang/IllegalArgumentException" = "java/lang/IllegalArgumentException" ∧ zHas g aC 6 p1 ∧ ¬ (1 ≤ p2 ∧ p2 ≤ 99999 ∧ 0 ≤ p3 ∧ p3 ≤ 9)) ∨ ("java/lang/IllegalArgumentException" = "java/lang/IllegalStateException" ∧ zHas g aC 6 p1 ∧ (1 ≤ p2 ∧ p2 ≤ 99999 ∧ 0 ≤ p3 ∧ p3 ≤ 9) ∧ ∀ j : Nat, j < 8 → g aT j ≠ .null)) ∧ u = (L, κ, g))) ∨ (r = 3 ∧ ((("java/lang/IllegalStateException" = "java/lang/IndexOutOfBoundsException" ∧ ¬ zHas g aC 6 p1) ∨ ("java/lang/IllegalStateException" = "java/lang/IllegalArgumentException" ∧ zHas g aC 6 p1 ∧ ¬ (1 ≤ p2 ∧ p2 ≤ 99999 ∧ 0 ≤ p3 ∧ p3 ≤ 9)) ∨ ("java/lang/IllegalStateException" = "java/lang/IllegalStateException" ∧ zHas g aC 6 p1 ∧ (1 ≤ p2 ∧ p2 ≤ 99999 ∧ 0 ≤ p3 ∧ p3 ≤ 9) ∧ ∀ j : Nat, j < 8 → g aT j ≠ .null)) ∧ u = (L, κ, g)))) (fun (u : zS) (t : State) => zB D tc (zA [] L sz) [] u t) (zA [] L sz)) (vx_X (fun u : zS => True) (fun (E : String) (u : zS) (t : State) => (False) ∧ zB D tc (zA [] L sz) [] u t) (zA [] L sz)) 2 12 (zA [] L sz) := by
  refine vx_ofWH (cc := cL_thread) (maxL := 6) (ret := (some .int)) (hh := [(0, 12, 15, 13), (0, 12, 19, 15), (0, 12, 23, 17)]) (by decide) rfl ?_
  intro p e s m args below meth c s₁ B hml hv
  obtain ⟨rfl, rfl, hK, hE, hI⟩ := hv.opn
  have hx := B.exec
  have hb := B.bytes
  have hr := B.returns
  have hts := atoms_spec (ws := wsL_thread) B.pre
  have hown : s.vm.findClass RL = some m.cls := findClass_of_methodNamed B.named
  have hlocks := B.notSynchronized
  have htab := vx_table (x := yL_thread) B (hts (.codeWith yL_thread cL_thread 6 (some .int) [(0, 12, 15, 13), (0, 12, 19, 15), (0, 12, 23, 17)]) List.mem_cons_self)
  have hM : zM p s m c cL_thread _ wsL_thread RL D tc := ⟨hx, hb, hts, hown, hK⟩
  have hl := lv_entry ([.ref p0, .int p1, .int p2, .int p3, .ref po]) (n := 6) (Nat.le_of_ble_eq_true rfl)
  rw [lg_entry_eq]
  generalize (lg_sl ([.ref p0, .int p1, .int p2, .int p3, .ref po]) ++ List.replicate (6 - (lg_sl ([.ref p0, .int p1, .int p2, .int p3, .ref po])).length) Slot.unset).toArray = ls at hl ⊢
  have hl : lv_has ls 6 [(0, .ref p0), (1, .int p1), (2, .int p2), (3, .int p3), (4, .ref po)] := hl
  refine lv_aload hx hb dL_thread_0 (lv_at hl 4 rfl) ?_
  refine lv_iconst (v := 0) hx hb dL_thread_2 (by decide) ?_
  refine lv_aload_n hx hb dL_thread_3 rfl (lv_at hl 0 rfl) ?_
  refine lv_iload_n hx hb dL_thread_4 rfl (lv_at hl 1 rfl) ?_
  refine lv_iload_n hx hb dL_thread_5 rfl (lv_at hl 2 rfl) ?_
  refine lv_iload_n hx hb dL_thread_6 rfl (lv_at hl 3 rfl) ?_
  refine z_xi hI (vx_runV (As := [.int p1, .int p2, .int p3]) (rest := [.int 0, .ref po]) ⟨hx, hb, hml, hown, hts⟩ (c_X8_thread l hnt _ _ _ _ _ _ _ p0 hk0 p1 p2 p3 aC hC aT hT) (cwV 3 hts gL_thread_X8_thread rfl rfl rfl (by decide +kernel) ⟨Nat.le_of_ble_eq_true rfl, Nat.le_of_ble_eq_true rfl⟩) (z_preV hK hE hI [] rfl rfl (z_recv hK hI hk0 rfl rfl)) rfl rfl hl.1 rfl (lv_room (Nat.le_of_ble_eq_true rfl)) dL_thread_7 ⟨Nat.le_of_ble_eq_true rfl, Nat.le_of_ble_eq_true rfl⟩) (fun E ce q9 u H locs hw hI he1 he2 he3 => ?_) (fun v u H locs hw hI => ?_)
  · have hw : ((E = "java/lang/IndexOutOfBoundsException" ∧ ¬ zHas g aC 6 p1) ∨ (E = "java/lang/IllegalArgumentException" ∧ zHas g aC 6 p1 ∧ ¬ (1 ≤ p2 ∧ p2 ≤ 99999 ∧ 0 ≤ p3 ∧ p3 ≤ 9)) ∨ (E = "java/lang/IllegalStateException" ∧ zHas g aC 6 p1 ∧ (1 ≤ p2 ∧ p2 ≤ 99999 ∧ 0 ≤ p3 ∧ p3 ≤ 9) ∧ ∀ j : Nat, j < 8 → g aT j ≠ .null)) ∧ u = (L, κ, g) := hw
    by_cases hE0 : E = "java/lang/IndexOutOfBoundsException"
    · subst hE0
      refine vx_catch (name := "java/lang/IndexOutOfBoundsException") hown [] ⟨0, 12, 15, 13⟩ [⟨0, 12, 19, 15⟩, ⟨0, 12, 23, 17⟩] htab (fun z hz => nomatch hz) (by decide) (by decide) (hts (.classLink RL 13 "java/lang/IndexOutOfBoundsException") (by decide +kernel)) (va_Nw.use rfl (hE.1 (.castable "java/lang/IndexOutOfBoundsException" "java/lang/IndexOutOfBoundsException") (by decide +kernel) rfl)) he1 he2 he3 ?_
      show W p l e _ s m _ below meth c H locs _ _ _ (F0 m 15 ls [.ref q9])
      refine lv_astore (lv' := [(5, .ref q9), (0, .ref p0), (1, .int p1), (2, .int p2), (3, .int p3), (4, .ref po)]) hx hb dL_thread_15 hl (by decide) rfl (fun ls hl => ?_)
      refine lv_iconst (v := 1) hx hb dL_thread_17 (by decide) ?_
      refine vx_ret ?_
      exact W.iret (v := 1) hx hb hr (fun t ht hW => ⟨⟨_, u, rfl, (Or.inr (Or.inl ⟨rfl, hw⟩)), z_endG hK hI ht hW⟩, z_F hI ht⟩) (z_locs hI) dL_thread_18
    · skip
      by_cases hE1 : E = "java/lang/IllegalArgumentException"
      · subst hE1
        refine vx_catch (name := "java/lang/IllegalArgumentException") hown [⟨0, 12, 15, 13⟩] ⟨0, 12, 19, 15⟩ [⟨0, 12, 23, 17⟩] htab (List.forall_mem_cons.mpr ⟨Or.inr ⟨by decide, "java/lang/IndexOutOfBoundsException", hts (.classLink RL 13 "java/lang/IndexOutOfBoundsException") (by decide +kernel), hE.2.2.2.1 ("java/lang/IllegalArgumentException", "java/lang/IndexOutOfBoundsException") (by decide +kernel)⟩, (fun _ h => absurd h List.not_mem_nil)⟩) (by decide) (by decide) (hts (.classLink RL 15 "java/lang/IllegalArgumentException") (by decide +kernel)) (va_Nw.use rfl (hE.1 (.castable "java/lang/IllegalArgumentException" "java/lang/IllegalArgumentException") (by decide +kernel) rfl)) he1 he2 he3 ?_
        show W p l e _ s m _ below meth c H locs _ _ _ (F0 m 19 ls [.ref q9])
        refine lv_astore (lv' := [(5, .ref q9), (0, .ref p0), (1, .int p1), (2, .int p2), (3, .int p3), (4, .ref po)]) hx hb dL_thread_19 hl (by decide) rfl (fun ls hl => ?_)
        refine lv_iconst (v := 2) hx hb dL_thread_21 (by decide) ?_
        refine vx_ret ?_
        exact W.iret (v := 2) hx hb hr (fun t ht hW => ⟨⟨_, u, rfl, (Or.inr (Or.inr (Or.inl ⟨rfl, hw⟩))), z_endG hK hI ht hW⟩, z_F hI ht⟩) (z_locs hI) dL_thread_22
      · skip
        by_cases hE2 : E = "java/lang/IllegalStateException"
        · subst hE2
          refine vx_catch (name := "java/lang/IllegalStateException") hown [⟨0, 12, 15, 13⟩, ⟨0, 12, 19, 15⟩] ⟨0, 12, 23, 17⟩ [] htab (List.forall_mem_cons.mpr ⟨Or.inr ⟨by decide, "java/lang/IndexOutOfBoundsException", hts (.classLink RL 13 "java/lang/IndexOutOfBoundsException") (by decide +kernel), hE.2.2.2.1 ("java/lang/IllegalStateException", "java/lang/IndexOutOfBoundsException") (by decide +kernel)⟩, List.forall_mem_cons.mpr ⟨Or.inr ⟨by decide, "java/lang/IllegalArgumentException", hts (.classLink RL 15 "java/lang/IllegalArgumentException") (by decide +kernel), hE.2.2.2.1 ("java/lang/IllegalStateException", "java/lang/IllegalArgumentException") (by decide +kernel)⟩, (fun _ h => absurd h List.not_mem_nil)⟩⟩) (by decide) (by decide) (hts (.classLink RL 17 "java/lang/IllegalStateException") (by decide +kernel)) (va_Nw.use rfl (hE.1 (.castable "java/lang/IllegalStateException" "java/lang/IllegalStateException") (by decide +kernel) rfl)) he1 he2 he3 ?_
          show W p l e _ s m _ below meth c H locs _ _ _ (F0 m 23 ls [.ref q9])
          refine lv_astore (lv' := [(5, .ref q9), (0, .ref p0), (1, .int p1), (2, .int p2), (3, .int p3), (4, .ref po)]) hx hb dL_thread_23 hl (by decide) rfl (fun ls hl => ?_)
          refine lv_iconst (v := 3) hx hb dL_thread_25 (by decide) ?_
          refine vx_ret ?_
          exact W.iret (v := 3) hx hb hr (fun t ht hW => ⟨⟨_, u, rfl, (Or.inr (Or.inr (Or.inr ⟨rfl, hw⟩))), z_endG hK hI ht hW⟩, z_F hI ht⟩) (z_locs hI) dL_thread_26
        · skip
          exact absurd hw (by simp [hE0, hE1, hE2])
  obtain ⟨L1, κ1, g1⟩ := u
  have hw : ∃ i q : Nat, i < 8 ∧ v = nI i ∧ zHas g aC 6 p1 ∧ (1 ≤ p2 ∧ p2 ≤ 99999 ∧ 0 ≤ p3 ∧ p3 ≤ 9) ∧ (∀ j : Nat, j < i → g aT j ≠ .null) ∧ g aT i = .null ∧ (L1, κ1, g1).2.1 q = 9 ∧ zExt κ (zup g aT i (.ref q)) (L1, κ1, g1).2.1 (L1, κ1, g1).2.2 ∧ (L1, κ1, g1).2.2 q 1 = .int p1 ∧ ∀ b, κ b < 99 → b ≠ q := hw
  have hko1 : κ1 po = 29 := by obtain ⟨_, _, _, _, _, _, _, _, _, hx9, _⟩ := hw; exact (hx9.k (a := po) hko (by decide))
  refine lv_i2l hx hb dL_thread_10 rfl ?_
  refine lv_topl (fun w9 ew9 => ?_)
  refine z_last (g' := zup g1 po (0 : Int32).toNatClampNeg (.long w9)) hM hI hko1 rfl rfl (vp_in_c 0 1 (by decide)) ⟨(zup_self _ _ _ _).symm, _, rfl⟩ (fun b j h => zup_ne h) dL_thread_11 (fun H locs hI => ?_)
  refine lv_goto (tgt := 27) hx hb dL_thread_12 (by decide) ?_
  refine lv_iconst (v := 0) hx hb dL_thread_27 (by decide) ?_
  refine vx_ret ?_
  exact W.iret (v := 0) hx hb hr (fun t ht hW => ⟨⟨_, (L1, κ1, zup g1 po 0 (.long w9)), rfl, Or.inl ⟨rfl, v, (L1, κ1, g1), w9, hw, ew9, rfl⟩, z_endG hK hI ht hW⟩, z_F hI ht⟩) (z_locs hI) dL_thread_28

set_option maxHeartbeats 4000000 in
set_option maxRecDepth 100000 in
theorem c_L_feed (l : Launch) (hnt : l.stackTraces = false) (D : va_G) (tc : Nat → ClassId) (z0 : Nat) (L : List Nat) (κ : Nat → Nat) (g : Nat → Nat → Value) (sz : Nat) (p0 : Nat) (hk0 : κ p0 = 10) (p1 : Int32) (p2 : Int32) (po : Nat) (hko : κ po = 29) (aT : Nat) (hT : g p0 2 = .ref aT) : vx_Met l yL_feed wsL_feed ({ frames := 8, cells := 2, slots := 12, locals := 143 }) (zPc D tc z0 [.ref p0, .int p1, .int p2, .ref po] [] (L, κ, g) sz) (va_Qi (fun (r : Int32) (u : zS) => (r = 0 ∧ ∃ (r1 : Int32) (u1 : zS) (v9 : Int64), (zHas g aT 8 p1 ∧ u1 = (L, κ, g)) ∧ v9 = r1.toInt64 ∧ u = (u1.1, u1.2.1, zup u1.2.2 po 0 (.long v9))) ∨ (r = 1 ∧ ((("java/lang/IndexOutOfBoundsException" = "java/lang/IndexOutOfBoundsException" ∧ ¬ zHas g aT 8 p1) ∨ ("java/lang/IndexOutOfBoundsException" = "java/lang/IllegalArgumentException") ∨ ("java/lang/IndexOutOfBoundsException" = "java/lang/IllegalStateException")) ∧ u = (L, κ, g))) ∨ (r = 2 ∧ ((("java/lang/IllegalArgumentException" = "java/lang/IndexOutOfBoundsException" ∧ ¬ zHas g aT 8 p1) ∨ ("java/lang/IllegalArgumentException" = "java/lang/IllegalArgumentException") ∨ ("java/lang/IllegalArgumentException" = "java/lang/IllegalStateException")) ∧ u = (L, κ, g))) ∨ (r = 3 ∧ ((("java/lang/IllegalStateException" = "java/lang/IndexOutOfBoundsException" ∧ ¬ zHas g aT 8 p1) ∨ ("java/lang/IllegalStateException" = "java/lang/IllegalArgumentException") ∨ ("java/lang/IllegalStateException" = "java/lang/IllegalStateException")) ∧ u = (L, κ, g)))) (fun (u : zS) (t : State) => zB D tc (zA [] L sz) [] u t) (zA [] L sz)) (vx_X (fun u : zS => True) (fun (E : String) (u : zS) (t : State) => (False) ∧ zB D tc (zA [] L sz) [] u t) (zA [] L sz)) 2 12 (zA [] L sz) := by
  refine vx_ofWH (cc := cL_feed) (maxL := 5) (ret := (some .int)) (hh := [(0, 10, 13, 13), (0, 10, 17, 15), (0, 10, 21, 17)]) (by decide) rfl ?_
  intro p e s m args below meth c s₁ B hml hv
  obtain ⟨rfl, rfl, hK, hE, hI⟩ := hv.opn
  have hx := B.exec
  have hb := B.bytes
  have hr := B.returns
  have hts := atoms_spec (ws := wsL_feed) B.pre
  have hown : s.vm.findClass RL = some m.cls := findClass_of_methodNamed B.named
  have hlocks := B.notSynchronized
  have htab := vx_table (x := yL_feed) B (hts (.codeWith yL_feed cL_feed 5 (some .int) [(0, 10, 13, 13), (0, 10, 17, 15), (0, 10, 21, 17)]) List.mem_cons_self)
  have hM : zM p s m c cL_feed _ wsL_feed RL D tc := ⟨hx, hb, hts, hown, hK⟩
  have hl := lv_entry ([.ref p0, .int p1, .int p2, .ref po]) (n := 5) (Nat.le_of_ble_eq_true rfl)
  rw [lg_entry_eq]
  generalize (lg_sl ([.ref p0, .int p1, .int p2, .ref po]) ++ List.replicate (5 - (lg_sl ([.ref p0, .int p1, .int p2, .ref po])).length) Slot.unset).toArray = ls at hl ⊢
  have hl : lv_has ls 5 [(0, .ref p0), (1, .int p1), (2, .int p2), (3, .ref po)] := hl
  refine lv_aload_n hx hb dL_feed_0 rfl (lv_at hl 3 rfl) ?_
  refine lv_iconst (v := 0) hx hb dL_feed_1 (by decide) ?_
  refine lv_aload_n hx hb dL_feed_2 rfl (lv_at hl 0 rfl) ?_
  refine lv_iload_n hx hb dL_feed_3 rfl (lv_at hl 1 rfl) ?_
  refine lv_iload_n hx hb dL_feed_4 rfl (lv_at hl 2 rfl) ?_
  refine z_xi hI (vx_runV (As := [.int p1, .int p2]) (rest := [.int 0, .ref po]) ⟨hx, hb, hml, hown, hts⟩ (c_X8_feed l hnt _ _ _ _ _ _ _ p0 hk0 p1 p2 aT hT) (cwV 2 hts gL_feed_X8_feed rfl rfl rfl (by decide +kernel) ⟨Nat.le_of_ble_eq_true rfl, Nat.le_of_ble_eq_true rfl⟩) (z_preV hK hE hI [] rfl rfl (z_recv hK hI hk0 rfl rfl)) rfl rfl hl.1 rfl (lv_room (Nat.le_of_ble_eq_true rfl)) dL_feed_5 ⟨Nat.le_of_ble_eq_true rfl, Nat.le_of_ble_eq_true rfl⟩) (fun E ce q9 u H locs hw hI he1 he2 he3 => ?_) (fun v u H locs hw hI => ?_)
  · have hw : ((E = "java/lang/IndexOutOfBoundsException" ∧ ¬ zHas g aT 8 p1) ∨ (E = "java/lang/IllegalArgumentException") ∨ (E = "java/lang/IllegalStateException")) ∧ u = (L, κ, g) := hw
    by_cases hE0 : E = "java/lang/IndexOutOfBoundsException"
    · subst hE0
      refine vx_catch (name := "java/lang/IndexOutOfBoundsException") hown [] ⟨0, 10, 13, 13⟩ [⟨0, 10, 17, 15⟩, ⟨0, 10, 21, 17⟩] htab (fun z hz => nomatch hz) (by decide) (by decide) (hts (.classLink RL 13 "java/lang/IndexOutOfBoundsException") (by decide +kernel)) (va_Nw.use rfl (hE.1 (.castable "java/lang/IndexOutOfBoundsException" "java/lang/IndexOutOfBoundsException") (by decide +kernel) rfl)) he1 he2 he3 ?_
      show W p l e _ s m _ below meth c H locs _ _ _ (F0 m 13 ls [.ref q9])
      refine lv_astore (lv' := [(4, .ref q9), (0, .ref p0), (1, .int p1), (2, .int p2), (3, .ref po)]) hx hb dL_feed_13 hl (by decide) rfl (fun ls hl => ?_)
      refine lv_iconst (v := 1) hx hb dL_feed_15 (by decide) ?_
      refine vx_ret ?_
      exact W.iret (v := 1) hx hb hr (fun t ht hW => ⟨⟨_, u, rfl, (Or.inr (Or.inl ⟨rfl, hw⟩)), z_endG hK hI ht hW⟩, z_F hI ht⟩) (z_locs hI) dL_feed_16
    · skip
      by_cases hE1 : E = "java/lang/IllegalArgumentException"
      · subst hE1
        refine vx_catch (name := "java/lang/IllegalArgumentException") hown [⟨0, 10, 13, 13⟩] ⟨0, 10, 17, 15⟩ [⟨0, 10, 21, 17⟩] htab (List.forall_mem_cons.mpr ⟨Or.inr ⟨by decide, "java/lang/IndexOutOfBoundsException", hts (.classLink RL 13 "java/lang/IndexOutOfBoundsException") (by decide +kernel), hE.2.2.2.1 ("java/lang/IllegalArgumentException", "java/lang/IndexOutOfBoundsException") (by decide +kernel)⟩, (fun _ h => absurd h List.not_mem_nil)⟩) (by decide) (by decide) (hts (.classLink RL 15 "java/lang/IllegalArgumentException") (by decide +kernel)) (va_Nw.use rfl (hE.1 (.castable "java/lang/IllegalArgumentException" "java/lang/IllegalArgumentException") (by decide +kernel) rfl)) he1 he2 he3 ?_
        show W p l e _ s m _ below meth c H locs _ _ _ (F0 m 17 ls [.ref q9])
        refine lv_astore (lv' := [(4, .ref q9), (0, .ref p0), (1, .int p1), (2, .int p2), (3, .ref po)]) hx hb dL_feed_17 hl (by decide) rfl (fun ls hl => ?_)
        refine lv_iconst (v := 2) hx hb dL_feed_19 (by decide) ?_
        refine vx_ret ?_
        exact W.iret (v := 2) hx hb hr (fun t ht hW => ⟨⟨_, u, rfl, (Or.inr (Or.inr (Or.inl ⟨rfl, hw⟩))), z_endG hK hI ht hW⟩, z_F hI ht⟩) (z_locs hI) dL_feed_20
      · skip
        by_cases hE2 : E = "java/lang/IllegalStateException"
        · subst hE2
          refine vx_catch (name := "java/lang/IllegalStateException") hown [⟨0, 10, 13, 13⟩, ⟨0, 10, 17, 15⟩] ⟨0, 10, 21, 17⟩ [] htab (List.forall_mem_cons.mpr ⟨Or.inr ⟨by decide, "java/lang/IndexOutOfBoundsException", hts (.classLink RL 13 "java/lang/IndexOutOfBoundsException") (by decide +kernel), hE.2.2.2.1 ("java/lang/IllegalStateException", "java/lang/IndexOutOfBoundsException") (by decide +kernel)⟩, List.forall_mem_cons.mpr ⟨Or.inr ⟨by decide, "java/lang/IllegalArgumentException", hts (.classLink RL 15 "java/lang/IllegalArgumentException") (by decide +kernel), hE.2.2.2.1 ("java/lang/IllegalStateException", "java/lang/IllegalArgumentException") (by decide +kernel)⟩, (fun _ h => absurd h List.not_mem_nil)⟩⟩) (by decide) (by decide) (hts (.classLink RL 17 "java/lang/IllegalStateException") (by decide +kernel)) (va_Nw.use rfl (hE.1 (.castable "java/lang/IllegalStateException" "java/lang/IllegalStateException") (by decide +kernel) rfl)) he1 he2 he3 ?_
          show W p l e _ s m _ below meth c H locs _ _ _ (F0 m 21 ls [.ref q9])
          refine lv_astore (lv' := [(4, .ref q9), (0, .ref p0), (1, .int p1), (2, .int p2), (3, .ref po)]) hx hb dL_feed_21 hl (by decide) rfl (fun ls hl => ?_)
          refine lv_iconst (v := 3) hx hb dL_feed_23 (by decide) ?_
          refine vx_ret ?_
          exact W.iret (v := 3) hx hb hr (fun t ht hW => ⟨⟨_, u, rfl, (Or.inr (Or.inr (Or.inr ⟨rfl, hw⟩))), z_endG hK hI ht hW⟩, z_F hI ht⟩) (z_locs hI) dL_feed_24
        · skip
          exact absurd hw (by simp [hE0, hE1, hE2])
  obtain ⟨L1, κ1, g1⟩ := u
  have hw : zHas g aT 8 p1 ∧ (L1, κ1, g1) = (L, κ, g) := hw
  have hko1 : κ1 po = 29 := by (repeat (first | (cases hw; exact hko) | (obtain ⟨_, hw⟩ := hw)))
  refine lv_i2l hx hb dL_feed_8 rfl ?_
  refine lv_topl (fun w9 ew9 => ?_)
  refine z_last (g' := zup g1 po (0 : Int32).toNatClampNeg (.long w9)) hM hI hko1 rfl rfl (vp_in_c 0 1 (by decide)) ⟨(zup_self _ _ _ _).symm, _, rfl⟩ (fun b j h => zup_ne h) dL_feed_9 (fun H locs hI => ?_)
  refine lv_goto (tgt := 25) hx hb dL_feed_10 (by decide) ?_
  refine lv_iconst (v := 0) hx hb dL_feed_25 (by decide) ?_
  refine vx_ret ?_
  exact W.iret (v := 0) hx hb hr (fun t ht hW => ⟨⟨_, (L1, κ1, zup g1 po 0 (.long w9)), rfl, Or.inl ⟨rfl, v, (L1, κ1, g1), w9, hw, ew9, rfl⟩, z_endG hK hI ht hW⟩, z_F hI ht⟩) (z_locs hI) dL_feed_26

set_option maxHeartbeats 4000000 in
set_option maxRecDepth 100000 in
theorem c_L_move (l : Launch) (hnt : l.stackTraces = false) (D : va_G) (tc : Nat → ClassId) (z0 : Nat) (L : List Nat) (κ : Nat → Nat) (g : Nat → Nat → Value) (sz : Nat) (p0 : Nat) (hk0 : κ p0 = 10) (p1 : Int32) (p2 : Int32) (po : Nat) (hko : κ po = 29) (aT : Nat) (hT : g p0 2 = .ref aT) (aC : Nat) (hC : g p0 1 = .ref aC) : vx_Met l yL_move wsL_move ({ frames := 8, cells := 3, slots := 18, locals := 144 }) (zPc D tc z0 [.ref p0, .int p1, .int p2, .ref po] [] (L, κ, g) sz) (va_Qi (fun (r : Int32) (u : zS) => (r = 0 ∧ ∃ (r1 : Int32) (u1 : zS) (v9 : Int64), (∃ a : Nat, κ a = 9 ∧ vp_in p1 8 ∧ g aT p1.toNatClampNeg = .ref a ∧ zHas g aC 6 p2 ∧ g a 1 = .int r1 ∧ ¬ r1 = p2 ∧ u1 = (L, κ, zup g a 1 (.int p2))) ∧ v9 = r1.toInt64 ∧ u = (u1.1, u1.2.1, zup u1.2.2 po 0 (.long v9))) ∨ (r = 1 ∧ ((("java/lang/IndexOutOfBoundsException" = "java/lang/IndexOutOfBoundsException" ∧ (¬ zHas g aT 8 p1 ∨ ¬ zHas g aC 6 p2)) ∨ ("java/lang/IndexOutOfBoundsException" = "java/lang/UnsupportedOperationException" ∧ zHas g aC 6 p2 ∧ vp_in p1 8 ∧ ∃ a : Nat, g aT p1.toNatClampNeg = .ref a ∧ g a 1 = .int p2)) ∧ u = (L, κ, g))) ∨ (r = 2 ∧ ((("java/lang/UnsupportedOperationException" = "java/lang/IndexOutOfBoundsException" ∧ (¬ zHas g aT 8 p1 ∨ ¬ zHas g aC 6 p2)) ∨ ("java/lang/UnsupportedOperationException" = "java/lang/UnsupportedOperationException" ∧ zHas g aC 6 p2 ∧ vp_in p1 8 ∧ ∃ a : Nat, g aT p1.toNatClampNeg = .ref a ∧ g a 1 = .int p2)) ∧ u = (L, κ, g)))) (fun (u : zS) (t : State) => zB D tc (zA [] L sz) [] u t) (zA [] L sz)) (vx_X (fun u : zS => True) (fun (E : String) (u : zS) (t : State) => (False) ∧ zB D tc (zA [] L sz) [] u t) (zA [] L sz)) 3 18 (zA [] L sz) := by
  refine vx_ofWH (cc := cL_move) (maxL := 5) (ret := (some .int)) (hh := [(0, 10, 13, 13), (0, 10, 17, 30)]) (by decide) rfl ?_
  intro p e s m args below meth c s₁ B hml hv
  obtain ⟨rfl, rfl, hK, hE, hI⟩ := hv.opn
  have hx := B.exec
  have hb := B.bytes
  have hr := B.returns
  have hts := atoms_spec (ws := wsL_move) B.pre
  have hown : s.vm.findClass RL = some m.cls := findClass_of_methodNamed B.named
  have hlocks := B.notSynchronized
  have htab := vx_table (x := yL_move) B (hts (.codeWith yL_move cL_move 5 (some .int) [(0, 10, 13, 13), (0, 10, 17, 30)]) List.mem_cons_self)
  have hM : zM p s m c cL_move _ wsL_move RL D tc := ⟨hx, hb, hts, hown, hK⟩
  have hl := lv_entry ([.ref p0, .int p1, .int p2, .ref po]) (n := 5) (Nat.le_of_ble_eq_true rfl)
  rw [lg_entry_eq]
  generalize (lg_sl ([.ref p0, .int p1, .int p2, .ref po]) ++ List.replicate (5 - (lg_sl ([.ref p0, .int p1, .int p2, .ref po])).length) Slot.unset).toArray = ls at hl ⊢
  have hl : lv_has ls 5 [(0, .ref p0), (1, .int p1), (2, .int p2), (3, .ref po)] := hl
  refine lv_aload_n hx hb dL_move_0 rfl (lv_at hl 3 rfl) ?_
  refine lv_iconst (v := 0) hx hb dL_move_1 (by decide) ?_
  refine lv_aload_n hx hb dL_move_2 rfl (lv_at hl 0 rfl) ?_
  refine lv_iload_n hx hb dL_move_3 rfl (lv_at hl 1 rfl) ?_
  refine lv_iload_n hx hb dL_move_4 rfl (lv_at hl 2 rfl) ?_
  refine z_xi hI (vx_runV (As := [.int p1, .int p2]) (rest := [.int 0, .ref po]) ⟨hx, hb, hml, hown, hts⟩ (c_X8_move l hnt _ _ _ _ _ _ _ p0 hk0 p1 p2 aT hT aC hC) (cwV 2 hts gL_move_X8_move rfl rfl rfl (by decide +kernel) ⟨Nat.le_of_ble_eq_true rfl, Nat.le_of_ble_eq_true rfl⟩) (z_preV hK hE hI [] rfl rfl (z_recv hK hI hk0 rfl rfl)) rfl rfl hl.1 rfl (lv_room (Nat.le_of_ble_eq_true rfl)) dL_move_5 ⟨Nat.le_of_ble_eq_true rfl, Nat.le_of_ble_eq_true rfl⟩) (fun E ce q9 u H locs hw hI he1 he2 he3 => ?_) (fun v u H locs hw hI => ?_)
  · have hw : ((E = "java/lang/IndexOutOfBoundsException" ∧ (¬ zHas g aT 8 p1 ∨ ¬ zHas g aC 6 p2)) ∨ (E = "java/lang/UnsupportedOperationException" ∧ zHas g aC 6 p2 ∧ vp_in p1 8 ∧ ∃ a : Nat, g aT p1.toNatClampNeg = .ref a ∧ g a 1 = .int p2)) ∧ u = (L, κ, g) := hw
    by_cases hE0 : E = "java/lang/IndexOutOfBoundsException"
    · subst hE0
      refine vx_catch (name := "java/lang/IndexOutOfBoundsException") hown [] ⟨0, 10, 13, 13⟩ [⟨0, 10, 17, 30⟩] htab (fun z hz => nomatch hz) (by decide) (by decide) (hts (.classLink RL 13 "java/lang/IndexOutOfBoundsException") (by decide +kernel)) (va_Nw.use rfl (hE.1 (.castable "java/lang/IndexOutOfBoundsException" "java/lang/IndexOutOfBoundsException") (by decide +kernel) rfl)) he1 he2 he3 ?_
      show W p l e _ s m _ below meth c H locs _ _ _ (F0 m 13 ls [.ref q9])
      refine lv_astore (lv' := [(4, .ref q9), (0, .ref p0), (1, .int p1), (2, .int p2), (3, .ref po)]) hx hb dL_move_13 hl (by decide) rfl (fun ls hl => ?_)
      refine lv_iconst (v := 1) hx hb dL_move_15 (by decide) ?_
      refine vx_ret ?_
      exact W.iret (v := 1) hx hb hr (fun t ht hW => ⟨⟨_, u, rfl, (Or.inr (Or.inl ⟨rfl, hw⟩)), z_endG hK hI ht hW⟩, z_F hI ht⟩) (z_locs hI) dL_move_16
    · skip
      by_cases hE1 : E = "java/lang/UnsupportedOperationException"
      · subst hE1
        refine vx_catch (name := "java/lang/UnsupportedOperationException") hown [⟨0, 10, 13, 13⟩] ⟨0, 10, 17, 30⟩ [] htab (List.forall_mem_cons.mpr ⟨Or.inr ⟨by decide, "java/lang/IndexOutOfBoundsException", hts (.classLink RL 13 "java/lang/IndexOutOfBoundsException") (by decide +kernel), hE.2.2.2.1 ("java/lang/UnsupportedOperationException", "java/lang/IndexOutOfBoundsException") (by decide +kernel)⟩, (fun _ h => absurd h List.not_mem_nil)⟩) (by decide) (by decide) (hts (.classLink RL 30 "java/lang/UnsupportedOperationException") (by decide +kernel)) (va_Nw.use rfl (hE.1 (.castable "java/lang/UnsupportedOperationException" "java/lang/UnsupportedOperationException") (by decide +kernel) rfl)) he1 he2 he3 ?_
        show W p l e _ s m _ below meth c H locs _ _ _ (F0 m 17 ls [.ref q9])
        refine lv_astore (lv' := [(4, .ref q9), (0, .ref p0), (1, .int p1), (2, .int p2), (3, .ref po)]) hx hb dL_move_17 hl (by decide) rfl (fun ls hl => ?_)
        refine lv_iconst (v := 2) hx hb dL_move_19 (by decide) ?_
        refine vx_ret ?_
        exact W.iret (v := 2) hx hb hr (fun t ht hW => ⟨⟨_, u, rfl, (Or.inr (Or.inr ⟨rfl, hw⟩)), z_endG hK hI ht hW⟩, z_F hI ht⟩) (z_locs hI) dL_move_20
      · skip
        exact absurd hw (by simp [hE0, hE1])
  obtain ⟨L1, κ1, g1⟩ := u
  have hw : ∃ a : Nat, κ a = 9 ∧ vp_in p1 8 ∧ g aT p1.toNatClampNeg = .ref a ∧ zHas g aC 6 p2 ∧ g a 1 = .int v ∧ ¬ v = p2 ∧ (L1, κ1, g1) = (L, κ, zup g a 1 (.int p2)) := hw
  have hko1 : κ1 po = 29 := by (repeat (first | (cases hw; exact hko) | (obtain ⟨_, hw⟩ := hw)))
  refine lv_i2l hx hb dL_move_8 rfl ?_
  refine lv_topl (fun w9 ew9 => ?_)
  refine z_last (g' := zup g1 po (0 : Int32).toNatClampNeg (.long w9)) hM hI hko1 rfl rfl (vp_in_c 0 1 (by decide)) ⟨(zup_self _ _ _ _).symm, _, rfl⟩ (fun b j h => zup_ne h) dL_move_9 (fun H locs hI => ?_)
  refine lv_goto (tgt := 21) hx hb dL_move_10 (by decide) ?_
  refine lv_iconst (v := 0) hx hb dL_move_21 (by decide) ?_
  refine vx_ret ?_
  exact W.iret (v := 0) hx hb hr (fun t ht hW => ⟨⟨_, (L1, κ1, zup g1 po 0 (.long w9)), rfl, Or.inl ⟨rfl, v, (L1, κ1, g1), w9, hw, ew9, rfl⟩, z_endG hK hI ht hW⟩, z_F hI ht⟩) (z_locs hI) dL_move_22

set_option maxHeartbeats 4000000 in
set_option maxRecDepth 100000 in
theorem c_L_governor (l : Launch) (hnt : l.stackTraces = false) (D : va_G) (tc : Nat → ClassId) (z0 : Nat) (L : List Nat) (κ : Nat → Nat) (g : Nat → Nat → Value) (sz : Nat) (p0 : Nat) (hk0 : κ p0 = 10) (p1 : Int32) (p2 : Int32) (hc2 : fits .char (.int p2) = true) (p3 : Int32) (po : Nat) (hko : κ po = 29) (aC : Nat) (hC : g p0 1 = .ref aC) : vx_Met l yL_governor wsL_governor ({ frames := 8, cells := 2, slots := 12, locals := 145 }) (zPc D tc z0 [.ref p0, .int p1, .int p2, .int p3, .ref po] [] (L, κ, g) sz) (va_Qi (fun (r : Int32) (u : zS) => (r = 0 ∧ ∃ (r1 : Int32) (u1 : zS) (v9 : Int64), (∃ a : Nat, κ a = 5 ∧ vp_in p1 6 ∧ g aC p1.toNatClampNeg = .ref a ∧ g a 3 = .int r1 ∧ (p2 = 108 ∨ p2 = 119 ∨ (p2 = 102 ∧ 0 ≤ p3 ∧ p3 ≤ 7)) ∧ u1 = (L, κ, zup g a 3 (.int p2))) ∧ v9 = r1.toInt64 ∧ u = (u1.1, u1.2.1, zup u1.2.2 po 0 (.long v9))) ∨ (r = 1 ∧ ((("java/lang/IndexOutOfBoundsException" = "java/lang/IndexOutOfBoundsException" ∧ ¬ zHas g aC 6 p1) ∨ ("java/lang/IndexOutOfBoundsException" = "java/lang/IllegalArgumentException" ∧ zHas g aC 6 p1 ∧ ¬ (p2 = 108 ∨ p2 = 119 ∨ (p2 = 102 ∧ 0 ≤ p3 ∧ p3 ≤ 7)))) ∧ u = (L, κ, g))) ∨ (r = 2 ∧ ((("java/lang/IllegalArgumentException" = "java/lang/IndexOutOfBoundsException" ∧ ¬ zHas g aC 6 p1) ∨ ("java/lang/IllegalArgumentException" = "java/lang/IllegalArgumentException" ∧ zHas g aC 6 p1 ∧ ¬ (p2 = 108 ∨ p2 = 119 ∨ (p2 = 102 ∧ 0 ≤ p3 ∧ p3 ≤ 7)))) ∧ u = (L, κ, g)))) (fun (u : zS) (t : State) => zB D tc (zA [] L sz) [] u t) (zA [] L sz)) (vx_X (fun u : zS => True) (fun (E : String) (u : zS) (t : State) => (False) ∧ zB D tc (zA [] L sz) [] u t) (zA [] L sz)) 2 12 (zA [] L sz) := by
  refine vx_ofWH (cc := cL_governor) (maxL := 6) (ret := (some .int)) (hh := [(0, 12, 15, 13), (0, 12, 19, 15)]) (by decide) rfl ?_
  intro p e s m args below meth c s₁ B hml hv
  obtain ⟨rfl, rfl, hK, hE, hI⟩ := hv.opn
  have hx := B.exec
  have hb := B.bytes
  have hr := B.returns
  have hts := atoms_spec (ws := wsL_governor) B.pre
  have hown : s.vm.findClass RL = some m.cls := findClass_of_methodNamed B.named
  have hlocks := B.notSynchronized
  have htab := vx_table (x := yL_governor) B (hts (.codeWith yL_governor cL_governor 6 (some .int) [(0, 12, 15, 13), (0, 12, 19, 15)]) List.mem_cons_self)
  have hM : zM p s m c cL_governor _ wsL_governor RL D tc := ⟨hx, hb, hts, hown, hK⟩
  have hl := lv_entry ([.ref p0, .int p1, .int p2, .int p3, .ref po]) (n := 6) (Nat.le_of_ble_eq_true rfl)
  rw [lg_entry_eq]
  generalize (lg_sl ([.ref p0, .int p1, .int p2, .int p3, .ref po]) ++ List.replicate (6 - (lg_sl ([.ref p0, .int p1, .int p2, .int p3, .ref po])).length) Slot.unset).toArray = ls at hl ⊢
  have hl : lv_has ls 6 [(0, .ref p0), (1, .int p1), (2, .int p2), (3, .int p3), (4, .ref po)] := hl
  refine lv_aload hx hb dL_governor_0 (lv_at hl 4 rfl) ?_
  refine lv_iconst (v := 0) hx hb dL_governor_2 (by decide) ?_
  refine lv_aload_n hx hb dL_governor_3 rfl (lv_at hl 0 rfl) ?_
  refine lv_iload_n hx hb dL_governor_4 rfl (lv_at hl 1 rfl) ?_
  refine lv_iload_n hx hb dL_governor_5 rfl (lv_at hl 2 rfl) ?_
  refine lv_iload_n hx hb dL_governor_6 rfl (lv_at hl 3 rfl) ?_
  refine z_xi hI (vx_runV (As := [.int p1, .int p2, .int p3]) (rest := [.int 0, .ref po]) ⟨hx, hb, hml, hown, hts⟩ (c_X8_governor l hnt _ _ _ _ _ _ _ p0 hk0 p1 p2 hc2 p3 aC hC) (cwV 3 hts gL_governor_X8_governor rfl rfl rfl (by decide +kernel) ⟨Nat.le_of_ble_eq_true rfl, Nat.le_of_ble_eq_true rfl⟩) (z_preV hK hE hI [] rfl rfl (z_recv hK hI hk0 rfl rfl)) rfl rfl hl.1 rfl (lv_room (Nat.le_of_ble_eq_true rfl)) dL_governor_7 ⟨Nat.le_of_ble_eq_true rfl, Nat.le_of_ble_eq_true rfl⟩) (fun E ce q9 u H locs hw hI he1 he2 he3 => ?_) (fun v u H locs hw hI => ?_)
  · have hw : ((E = "java/lang/IndexOutOfBoundsException" ∧ ¬ zHas g aC 6 p1) ∨ (E = "java/lang/IllegalArgumentException" ∧ zHas g aC 6 p1 ∧ ¬ (p2 = 108 ∨ p2 = 119 ∨ (p2 = 102 ∧ 0 ≤ p3 ∧ p3 ≤ 7)))) ∧ u = (L, κ, g) := hw
    by_cases hE0 : E = "java/lang/IndexOutOfBoundsException"
    · subst hE0
      refine vx_catch (name := "java/lang/IndexOutOfBoundsException") hown [] ⟨0, 12, 15, 13⟩ [⟨0, 12, 19, 15⟩] htab (fun z hz => nomatch hz) (by decide) (by decide) (hts (.classLink RL 13 "java/lang/IndexOutOfBoundsException") (by decide +kernel)) (va_Nw.use rfl (hE.1 (.castable "java/lang/IndexOutOfBoundsException" "java/lang/IndexOutOfBoundsException") (by decide +kernel) rfl)) he1 he2 he3 ?_
      show W p l e _ s m _ below meth c H locs _ _ _ (F0 m 15 ls [.ref q9])
      refine lv_astore (lv' := [(5, .ref q9), (0, .ref p0), (1, .int p1), (2, .int p2), (3, .int p3), (4, .ref po)]) hx hb dL_governor_15 hl (by decide) rfl (fun ls hl => ?_)
      refine lv_iconst (v := 1) hx hb dL_governor_17 (by decide) ?_
      refine vx_ret ?_
      exact W.iret (v := 1) hx hb hr (fun t ht hW => ⟨⟨_, u, rfl, (Or.inr (Or.inl ⟨rfl, hw⟩)), z_endG hK hI ht hW⟩, z_F hI ht⟩) (z_locs hI) dL_governor_18
    · skip
      by_cases hE1 : E = "java/lang/IllegalArgumentException"
      · subst hE1
        refine vx_catch (name := "java/lang/IllegalArgumentException") hown [⟨0, 12, 15, 13⟩] ⟨0, 12, 19, 15⟩ [] htab (List.forall_mem_cons.mpr ⟨Or.inr ⟨by decide, "java/lang/IndexOutOfBoundsException", hts (.classLink RL 13 "java/lang/IndexOutOfBoundsException") (by decide +kernel), hE.2.2.2.1 ("java/lang/IllegalArgumentException", "java/lang/IndexOutOfBoundsException") (by decide +kernel)⟩, (fun _ h => absurd h List.not_mem_nil)⟩) (by decide) (by decide) (hts (.classLink RL 15 "java/lang/IllegalArgumentException") (by decide +kernel)) (va_Nw.use rfl (hE.1 (.castable "java/lang/IllegalArgumentException" "java/lang/IllegalArgumentException") (by decide +kernel) rfl)) he1 he2 he3 ?_
        show W p l e _ s m _ below meth c H locs _ _ _ (F0 m 19 ls [.ref q9])
        refine lv_astore (lv' := [(5, .ref q9), (0, .ref p0), (1, .int p1), (2, .int p2), (3, .int p3), (4, .ref po)]) hx hb dL_governor_19 hl (by decide) rfl (fun ls hl => ?_)
        refine lv_iconst (v := 2) hx hb dL_governor_21 (by decide) ?_
        refine vx_ret ?_
        exact W.iret (v := 2) hx hb hr (fun t ht hW => ⟨⟨_, u, rfl, (Or.inr (Or.inr ⟨rfl, hw⟩)), z_endG hK hI ht hW⟩, z_F hI ht⟩) (z_locs hI) dL_governor_22
      · skip
        exact absurd hw (by simp [hE0, hE1])
  obtain ⟨L1, κ1, g1⟩ := u
  have hw : ∃ a : Nat, κ a = 5 ∧ vp_in p1 6 ∧ g aC p1.toNatClampNeg = .ref a ∧ g a 3 = .int v ∧ (p2 = 108 ∨ p2 = 119 ∨ (p2 = 102 ∧ 0 ≤ p3 ∧ p3 ≤ 7)) ∧ (L1, κ1, g1) = (L, κ, zup g a 3 (.int p2)) := hw
  have hko1 : κ1 po = 29 := by (repeat (first | (cases hw; exact hko) | (obtain ⟨_, hw⟩ := hw)))
  refine lv_i2l hx hb dL_governor_10 rfl ?_
  refine lv_topl (fun w9 ew9 => ?_)
  refine z_last (g' := zup g1 po (0 : Int32).toNatClampNeg (.long w9)) hM hI hko1 rfl rfl (vp_in_c 0 1 (by decide)) ⟨(zup_self _ _ _ _).symm, _, rfl⟩ (fun b j h => zup_ne h) dL_governor_11 (fun H locs hI => ?_)
  refine lv_goto (tgt := 23) hx hb dL_governor_12 (by decide) ?_
  refine lv_iconst (v := 0) hx hb dL_governor_23 (by decide) ?_
  refine vx_ret ?_
  exact W.iret (v := 0) hx hb hr (fun t ht hW => ⟨⟨_, (L1, κ1, zup g1 po 0 (.long w9)), rfl, Or.inl ⟨rfl, v, (L1, κ1, g1), w9, hw, ew9, rfl⟩, z_endG hK hI ht hW⟩, z_F hI ht⟩) (z_locs hI) dL_governor_24

set_option maxHeartbeats 4000000 in
set_option maxRecDepth 100000 in
theorem c_L_work (l : Launch) (hnt : l.stackTraces = false) (D : va_G) (tc : Nat → ClassId) (z0 : Nat) (L : List Nat) (κ : Nat → Nat) (g : Nat → Nat → Value) (sz : Nat) (p0 : Nat) (hk0 : κ p0 = 10) (p1 : Int32) (po : Nat) (hko : κ po = 29) (aT : Nat) (hT : g p0 2 = .ref aT) : vx_Met l yL_work wsL_work ({ frames := 8, cells := 1, slots := 6, locals := 141 }) (zPc D tc z0 [.ref p0, .int p1, .ref po] [] (L, κ, g) sz) (va_Qi (fun (r : Int32) (u : zS) => (r = 0 ∧ ∃ (r1 : Int32) (u1 : zS) (v9 : Int64), (zHas g aT 8 p1 ∧ u1 = (L, κ, g)) ∧ v9 = r1.toInt64 ∧ u = (u1.1, u1.2.1, zup u1.2.2 po 0 (.long v9))) ∨ (r = 1 ∧ ((("java/lang/IndexOutOfBoundsException" = "java/lang/IndexOutOfBoundsException" ∧ ¬ zHas g aT 8 p1)) ∧ u = (L, κ, g)))) (fun (u : zS) (t : State) => zB D tc (zA [] L sz) [] u t) (zA [] L sz)) (vx_X (fun u : zS => True) (fun (E : String) (u : zS) (t : State) => (False) ∧ zB D tc (zA [] L sz) [] u t) (zA [] L sz)) 1 6 (zA [] L sz) := by
  refine vx_ofWH (cc := cL_work) (maxL := 4) (ret := (some .int)) (hh := [(0, 9, 12, 13)]) (by decide) rfl ?_
  intro p e s m args below meth c s₁ B hml hv
  obtain ⟨rfl, rfl, hK, hE, hI⟩ := hv.opn
  have hx := B.exec
  have hb := B.bytes
  have hr := B.returns
  have hts := atoms_spec (ws := wsL_work) B.pre
  have hown : s.vm.findClass RL = some m.cls := findClass_of_methodNamed B.named
  have hlocks := B.notSynchronized
  have htab := vx_table (x := yL_work) B (hts (.codeWith yL_work cL_work 4 (some .int) [(0, 9, 12, 13)]) List.mem_cons_self)
  have hM : zM p s m c cL_work _ wsL_work RL D tc := ⟨hx, hb, hts, hown, hK⟩
  have hl := lv_entry ([.ref p0, .int p1, .ref po]) (n := 4) (Nat.le_of_ble_eq_true rfl)
  rw [lg_entry_eq]
  generalize (lg_sl ([.ref p0, .int p1, .ref po]) ++ List.replicate (4 - (lg_sl ([.ref p0, .int p1, .ref po])).length) Slot.unset).toArray = ls at hl ⊢
  have hl : lv_has ls 4 [(0, .ref p0), (1, .int p1), (2, .ref po)] := hl
  refine lv_aload_n hx hb dL_work_0 rfl (lv_at hl 2 rfl) ?_
  refine lv_iconst (v := 0) hx hb dL_work_1 (by decide) ?_
  refine lv_aload_n hx hb dL_work_2 rfl (lv_at hl 0 rfl) ?_
  refine lv_iload_n hx hb dL_work_3 rfl (lv_at hl 1 rfl) ?_
  refine z_xi hI (vx_runV (As := [.int p1]) (rest := [.int 0, .ref po]) ⟨hx, hb, hml, hown, hts⟩ (c_X8_work l hnt _ _ _ _ _ _ _ p0 hk0 p1 aT hT) (cwV 1 hts gL_work_X8_work rfl rfl rfl (by decide +kernel) ⟨Nat.le_of_ble_eq_true rfl, Nat.le_of_ble_eq_true rfl⟩) (z_preV hK hE hI [] rfl rfl (z_recv hK hI hk0 rfl rfl)) rfl rfl hl.1 rfl (lv_room (Nat.le_of_ble_eq_true rfl)) dL_work_4 ⟨Nat.le_of_ble_eq_true rfl, Nat.le_of_ble_eq_true rfl⟩) (fun E ce q9 u H locs hw hI he1 he2 he3 => ?_) (fun v u H locs hw hI => ?_)
  · have hw : ((E = "java/lang/IndexOutOfBoundsException" ∧ ¬ zHas g aT 8 p1)) ∧ u = (L, κ, g) := hw
    by_cases hE0 : E = "java/lang/IndexOutOfBoundsException"
    · subst hE0
      refine vx_catch (name := "java/lang/IndexOutOfBoundsException") hown [] ⟨0, 9, 12, 13⟩ [] htab (fun z hz => nomatch hz) (by decide) (by decide) (hts (.classLink RL 13 "java/lang/IndexOutOfBoundsException") (by decide +kernel)) (va_Nw.use rfl (hE.1 (.castable "java/lang/IndexOutOfBoundsException" "java/lang/IndexOutOfBoundsException") (by decide +kernel) rfl)) he1 he2 he3 ?_
      show W p l e _ s m _ below meth c H locs _ _ _ (F0 m 12 ls [.ref q9])
      refine lv_astore_n (lv' := [(3, .ref q9), (0, .ref p0), (1, .int p1), (2, .ref po)]) hx hb dL_work_12 rfl hl (by decide) rfl (fun ls hl => ?_)
      refine lv_iconst (v := 1) hx hb dL_work_13 (by decide) ?_
      refine vx_ret ?_
      exact W.iret (v := 1) hx hb hr (fun t ht hW => ⟨⟨_, u, rfl, (Or.inr ⟨rfl, hw⟩), z_endG hK hI ht hW⟩, z_F hI ht⟩) (z_locs hI) dL_work_14
    · skip
      exact absurd hw (by simp [hE0])
  obtain ⟨L1, κ1, g1⟩ := u
  have hw : zHas g aT 8 p1 ∧ (L1, κ1, g1) = (L, κ, g) := hw
  have hko1 : κ1 po = 29 := by (repeat (first | (cases hw; exact hko) | (obtain ⟨_, hw⟩ := hw)))
  refine lv_i2l hx hb dL_work_7 rfl ?_
  refine lv_topl (fun w9 ew9 => ?_)
  refine z_last (g' := zup g1 po (0 : Int32).toNatClampNeg (.long w9)) hM hI hko1 rfl rfl (vp_in_c 0 1 (by decide)) ⟨(zup_self _ _ _ _).symm, _, rfl⟩ (fun b j h => zup_ne h) dL_work_8 (fun H locs hI => ?_)
  refine lv_goto (tgt := 15) hx hb dL_work_9 (by decide) ?_
  refine lv_iconst (v := 0) hx hb dL_work_15 (by decide) ?_
  refine vx_ret ?_
  exact W.iret (v := 0) hx hb hr (fun t ht hW => ⟨⟨_, (L1, κ1, zup g1 po 0 (.long w9)), rfl, Or.inl ⟨rfl, v, (L1, κ1, g1), w9, hw, ew9, rfl⟩, z_endG hK hI ht hW⟩, z_F hI ht⟩) (z_locs hI) dL_work_16

set_option maxHeartbeats 4000000 in
set_option maxRecDepth 100000 in
theorem c_L_isCold (l : Launch) (hnt : l.stackTraces = false) (D : va_G) (tc : Nat → ClassId) (z0 : Nat) (L : List Nat) (κ : Nat → Nat) (g : Nat → Nat → Value) (sz : Nat) (p0 : Nat) (hk0 : κ p0 = 10) (p1 : Int32) (po : Nat) (hko : κ po = 29) (aT : Nat) (hT : g p0 2 = .ref aT) : vx_Met l yL_isCold wsL_isCold ({ frames := 8, cells := 1, slots := 6, locals := 141 }) (zPc D tc z0 [.ref p0, .int p1, .ref po] [] (L, κ, g) sz) (va_Qi (fun (r : Int32) (u : zS) => (r = 0 ∧ ∃ (r1 : Int32) (u1 : zS) (v9 : Int64), (zHas g aT 8 p1 ∧ u1 = (L, κ, g)) ∧ v9 = (if r1 = 0 then 0 else 1) ∧ u = (u1.1, u1.2.1, zup u1.2.2 po 0 (.long v9))) ∨ (r = 1 ∧ ((("java/lang/IndexOutOfBoundsException" = "java/lang/IndexOutOfBoundsException" ∧ ¬ zHas g aT 8 p1)) ∧ u = (L, κ, g)))) (fun (u : zS) (t : State) => zB D tc (zA [] L sz) [] u t) (zA [] L sz)) (vx_X (fun u : zS => True) (fun (E : String) (u : zS) (t : State) => (False) ∧ zB D tc (zA [] L sz) [] u t) (zA [] L sz)) 1 6 (zA [] L sz) := by
  refine vx_ofWH (cc := cL_isCold) (maxL := 4) (ret := (some .int)) (hh := [(0, 16, 19, 13)]) (by decide) rfl ?_
  intro p e s m args below meth c s₁ B hml hv
  obtain ⟨rfl, rfl, hK, hE, hI⟩ := hv.opn
  have hx := B.exec
  have hb := B.bytes
  have hr := B.returns
  have hts := atoms_spec (ws := wsL_isCold) B.pre
  have hown : s.vm.findClass RL = some m.cls := findClass_of_methodNamed B.named
  have hlocks := B.notSynchronized
  have htab := vx_table (x := yL_isCold) B (hts (.codeWith yL_isCold cL_isCold 4 (some .int) [(0, 16, 19, 13)]) List.mem_cons_self)
  have hM : zM p s m c cL_isCold _ wsL_isCold RL D tc := ⟨hx, hb, hts, hown, hK⟩
  have hl := lv_entry ([.ref p0, .int p1, .ref po]) (n := 4) (Nat.le_of_ble_eq_true rfl)
  rw [lg_entry_eq]
  generalize (lg_sl ([.ref p0, .int p1, .ref po]) ++ List.replicate (4 - (lg_sl ([.ref p0, .int p1, .ref po])).length) Slot.unset).toArray = ls at hl ⊢
  have hl : lv_has ls 4 [(0, .ref p0), (1, .int p1), (2, .ref po)] := hl
  refine lv_aload_n hx hb dL_isCold_0 rfl (lv_at hl 2 rfl) ?_
  refine lv_iconst (v := 0) hx hb dL_isCold_1 (by decide) ?_
  refine lv_aload_n hx hb dL_isCold_2 rfl (lv_at hl 0 rfl) ?_
  refine lv_iload_n hx hb dL_isCold_3 rfl (lv_at hl 1 rfl) ?_
  refine z_xi hI (vx_runV (As := [.int p1]) (rest := [.int 0, .ref po]) ⟨hx, hb, hml, hown, hts⟩ (c_X8_isCold l hnt _ _ _ _ _ _ _ p0 hk0 p1 aT hT) (cwV 1 hts gL_isCold_X8_isCold rfl rfl rfl (by decide +kernel) ⟨Nat.le_of_ble_eq_true rfl, Nat.le_of_ble_eq_true rfl⟩) (z_preV hK hE hI [] rfl rfl (z_recv hK hI hk0 rfl rfl)) rfl rfl hl.1 rfl (lv_room (Nat.le_of_ble_eq_true rfl)) dL_isCold_4 ⟨Nat.le_of_ble_eq_true rfl, Nat.le_of_ble_eq_true rfl⟩) (fun E ce q9 u H locs hw hI he1 he2 he3 => ?_) (fun v u H locs hw hI => ?_)
  · have hw : ((E = "java/lang/IndexOutOfBoundsException" ∧ ¬ zHas g aT 8 p1)) ∧ u = (L, κ, g) := hw
    by_cases hE0 : E = "java/lang/IndexOutOfBoundsException"
    · subst hE0
      refine vx_catch (name := "java/lang/IndexOutOfBoundsException") hown [] ⟨0, 16, 19, 13⟩ [] htab (fun z hz => nomatch hz) (by decide) (by decide) (hts (.classLink RL 13 "java/lang/IndexOutOfBoundsException") (by decide +kernel)) (va_Nw.use rfl (hE.1 (.castable "java/lang/IndexOutOfBoundsException" "java/lang/IndexOutOfBoundsException") (by decide +kernel) rfl)) he1 he2 he3 ?_
      show W p l e _ s m _ below meth c H locs _ _ _ (F0 m 19 ls [.ref q9])
      refine lv_astore_n (lv' := [(3, .ref q9), (0, .ref p0), (1, .int p1), (2, .ref po)]) hx hb dL_isCold_19 rfl hl (by decide) rfl (fun ls hl => ?_)
      refine lv_iconst (v := 1) hx hb dL_isCold_20 (by decide) ?_
      refine vx_ret ?_
      exact W.iret (v := 1) hx hb hr (fun t ht hW => ⟨⟨_, u, rfl, (Or.inr ⟨rfl, hw⟩), z_endG hK hI ht hW⟩, z_F hI ht⟩) (z_locs hI) dL_isCold_21
    · skip
      exact absurd hw (by simp [hE0])
  obtain ⟨L1, κ1, g1⟩ := u
  have hw : zHas g aT 8 p1 ∧ (L1, κ1, g1) = (L, κ, g) := hw
  have hko1 : κ1 po = 29 := by (repeat (first | (cases hw; exact hko) | (obtain ⟨_, hw⟩ := hw)))
  refine lv_if_eq (tgt := 14) hx hb dL_isCold_7 (by decide) (fun cz => ?_) (fun cz => ?_)
  · refine lv_lconst (v := 0) hx hb dL_isCold_14 (by decide) ?_
    refine z_last (g' := zup g1 po (0 : Int32).toNatClampNeg (.long 0)) hM hI hko1 rfl rfl (vp_in_c 0 1 (by decide)) ⟨(zup_self _ _ _ _).symm, _, rfl⟩ (fun b j h => zup_ne h) dL_isCold_15 (fun H locs hI => ?_)
    refine lv_goto (tgt := 22) hx hb dL_isCold_16 (by decide) ?_
    refine lv_iconst (v := 0) hx hb dL_isCold_22 (by decide) ?_
    refine vx_ret ?_
    exact W.iret (v := 0) hx hb hr (fun t ht hW => ⟨⟨_, (L1, κ1, zup g1 po 0 (.long 0)), rfl, Or.inl ⟨rfl, v, (L1, κ1, g1), 0, hw, (if_pos cz).symm, rfl⟩, z_endG hK hI ht hW⟩, z_F hI ht⟩) (z_locs hI) dL_isCold_23
  · refine lv_lconst (v := 1) hx hb dL_isCold_10 (by decide) ?_
    refine lv_goto (tgt := 15) hx hb dL_isCold_11 (by decide) ?_
    refine z_last (g' := zup g1 po (0 : Int32).toNatClampNeg (.long 1)) hM hI hko1 rfl rfl (vp_in_c 0 1 (by decide)) ⟨(zup_self _ _ _ _).symm, _, rfl⟩ (fun b j h => zup_ne h) dL_isCold_15 (fun H locs hI => ?_)
    refine lv_goto (tgt := 22) hx hb dL_isCold_16 (by decide) ?_
    refine lv_iconst (v := 0) hx hb dL_isCold_22 (by decide) ?_
    refine vx_ret ?_
    exact W.iret (v := 0) hx hb hr (fun t ht hW => ⟨⟨_, (L1, κ1, zup g1 po 0 (.long 1)), rfl, Or.inl ⟨rfl, v, (L1, κ1, g1), 1, hw, (if_neg cz).symm, rfl⟩, z_endG hK hI ht hW⟩, z_F hI ht⟩) (z_locs hI) dL_isCold_23

set_option maxHeartbeats 4000000 in
set_option maxRecDepth 100000 in
theorem c_L_pass (l : Launch) (hnt : l.stackTraces = false) (D : va_G) (tc : Nat → ClassId) (z0 : Nat) (L : List Nat) (κ : Nat → Nat) (g : Nat → Nat → Value) (sz : Nat) (p0 : Nat) (hk0 : κ p0 = 10) (p1 : Int32) (po : Nat) (hko : κ po = 29) (t9 : Int32) (ht9 : g p0 8 = .int t9) (rq : Nat) (hR : g p0 5 = .ref rq) (w9 : Int32) (hw9 : g rq 4 = .int w9) (h9 : Int32) (hh9 : g rq 2 = .int h9) (hne : rq ≠ p0) : vx_Met l yL_pass wsL_pass ({ frames := 7, cells := 1, slots := 6, locals := 158 }) (zPc D tc z0 [.ref p0, .int p1, .ref po] [] (L, κ, g) sz) (va_Qi (fun (r : Int32) (u : zS) => (r = 0 ∧ ∃ (r1 : Int32) (u1 : zS) (v9 : Int64), ((1 ≤ p1 ∧ p1 ≤ 100) ∧ ¬ 9999 < t9 + p1 ∧ r1 = t9 + p1 ∧ ∃ g2 : Nat → Nat → Value, u1 = (L, κ, g2) ∧ zTk p0 rq 8 2 4 g g2 (t9 + p1) (if w9 ≤ 0 then h9 else w9) (if w9 ≤ 0 then w9 else 0)) ∧ v9 = r1.toInt64 ∧ u = (u1.1, u1.2.1, zup u1.2.2 po 0 (.long v9))) ∨ (r = 1 ∧ ((("java/lang/IllegalArgumentException" = "java/lang/IllegalArgumentException" ∧ ¬ (1 ≤ p1 ∧ p1 ≤ 100)) ∨ ("java/lang/IllegalArgumentException" = "java/lang/IllegalStateException" ∧ (1 ≤ p1 ∧ p1 ≤ 100) ∧ 9999 < t9 + p1)) ∧ u = (L, κ, g))) ∨ (r = 2 ∧ ((("java/lang/IllegalStateException" = "java/lang/IllegalArgumentException" ∧ ¬ (1 ≤ p1 ∧ p1 ≤ 100)) ∨ ("java/lang/IllegalStateException" = "java/lang/IllegalStateException" ∧ (1 ≤ p1 ∧ p1 ≤ 100) ∧ 9999 < t9 + p1)) ∧ u = (L, κ, g)))) (fun (u : zS) (t : State) => zB D tc (zA [] L sz) [] u t) (zA [] L sz)) (vx_X (fun u : zS => True) (fun (E : String) (u : zS) (t : State) => (False) ∧ zB D tc (zA [] L sz) [] u t) (zA [] L sz)) 1 6 (zA [] L sz) := by
  refine vx_ofWH (cc := cL_pass) (maxL := 4) (ret := (some .int)) (hh := [(0, 9, 12, 15), (0, 9, 15, 17)]) (by decide) rfl ?_
  intro p e s m args below meth c s₁ B hml hv
  obtain ⟨rfl, rfl, hK, hE, hI⟩ := hv.opn
  have hx := B.exec
  have hb := B.bytes
  have hr := B.returns
  have hts := atoms_spec (ws := wsL_pass) B.pre
  have hown : s.vm.findClass RL = some m.cls := findClass_of_methodNamed B.named
  have hlocks := B.notSynchronized
  have htab := vx_table (x := yL_pass) B (hts (.codeWith yL_pass cL_pass 4 (some .int) [(0, 9, 12, 15), (0, 9, 15, 17)]) List.mem_cons_self)
  have hM : zM p s m c cL_pass _ wsL_pass RL D tc := ⟨hx, hb, hts, hown, hK⟩
  have hl := lv_entry ([.ref p0, .int p1, .ref po]) (n := 4) (Nat.le_of_ble_eq_true rfl)
  rw [lg_entry_eq]
  generalize (lg_sl ([.ref p0, .int p1, .ref po]) ++ List.replicate (4 - (lg_sl ([.ref p0, .int p1, .ref po])).length) Slot.unset).toArray = ls at hl ⊢
  have hl : lv_has ls 4 [(0, .ref p0), (1, .int p1), (2, .ref po)] := hl
  refine lv_aload_n hx hb dL_pass_0 rfl (lv_at hl 2 rfl) ?_
  refine lv_iconst (v := 0) hx hb dL_pass_1 (by decide) ?_
  refine lv_aload_n hx hb dL_pass_2 rfl (lv_at hl 0 rfl) ?_
  refine lv_iload_n hx hb dL_pass_3 rfl (lv_at hl 1 rfl) ?_
  refine z_xi hI (vx_runV (As := [.int p1]) (rest := [.int 0, .ref po]) ⟨hx, hb, hml, hown, hts⟩ (c_X8_pass l hnt _ _ _ _ _ _ _ p0 hk0 p1 t9 ht9 rq hR w9 hw9 h9 hh9 hne) (cwV 1 hts gL_pass_X8_pass rfl rfl rfl (by decide +kernel) ⟨Nat.le_of_ble_eq_true rfl, Nat.le_of_ble_eq_true rfl⟩) (z_preV hK hE hI [] rfl rfl (z_recv hK hI hk0 rfl rfl)) rfl rfl hl.1 rfl (lv_room (Nat.le_of_ble_eq_true rfl)) dL_pass_4 ⟨Nat.le_of_ble_eq_true rfl, Nat.le_of_ble_eq_true rfl⟩) (fun E ce q9 u H locs hw hI he1 he2 he3 => ?_) (fun v u H locs hw hI => ?_)
  · have hw : ((E = "java/lang/IllegalArgumentException" ∧ ¬ (1 ≤ p1 ∧ p1 ≤ 100)) ∨ (E = "java/lang/IllegalStateException" ∧ (1 ≤ p1 ∧ p1 ≤ 100) ∧ 9999 < t9 + p1)) ∧ u = (L, κ, g) := hw
    by_cases hE0 : E = "java/lang/IllegalArgumentException"
    · subst hE0
      refine vx_catch (name := "java/lang/IllegalArgumentException") hown [] ⟨0, 9, 12, 15⟩ [⟨0, 9, 15, 17⟩] htab (fun z hz => nomatch hz) (by decide) (by decide) (hts (.classLink RL 15 "java/lang/IllegalArgumentException") (by decide +kernel)) (va_Nw.use rfl (hE.1 (.castable "java/lang/IllegalArgumentException" "java/lang/IllegalArgumentException") (by decide +kernel) rfl)) he1 he2 he3 ?_
      show W p l e _ s m _ below meth c H locs _ _ _ (F0 m 12 ls [.ref q9])
      refine lv_astore_n (lv' := [(3, .ref q9), (0, .ref p0), (1, .int p1), (2, .ref po)]) hx hb dL_pass_12 rfl hl (by decide) rfl (fun ls hl => ?_)
      refine lv_iconst (v := 1) hx hb dL_pass_13 (by decide) ?_
      refine vx_ret ?_
      exact W.iret (v := 1) hx hb hr (fun t ht hW => ⟨⟨_, u, rfl, (Or.inr (Or.inl ⟨rfl, hw⟩)), z_endG hK hI ht hW⟩, z_F hI ht⟩) (z_locs hI) dL_pass_14
    · skip
      by_cases hE1 : E = "java/lang/IllegalStateException"
      · subst hE1
        refine vx_catch (name := "java/lang/IllegalStateException") hown [⟨0, 9, 12, 15⟩] ⟨0, 9, 15, 17⟩ [] htab (List.forall_mem_cons.mpr ⟨Or.inr ⟨by decide, "java/lang/IllegalArgumentException", hts (.classLink RL 15 "java/lang/IllegalArgumentException") (by decide +kernel), hE.2.2.2.1 ("java/lang/IllegalStateException", "java/lang/IllegalArgumentException") (by decide +kernel)⟩, (fun _ h => absurd h List.not_mem_nil)⟩) (by decide) (by decide) (hts (.classLink RL 17 "java/lang/IllegalStateException") (by decide +kernel)) (va_Nw.use rfl (hE.1 (.castable "java/lang/IllegalStateException" "java/lang/IllegalStateException") (by decide +kernel) rfl)) he1 he2 he3 ?_
        show W p l e _ s m _ below meth c H locs _ _ _ (F0 m 15 ls [.ref q9])
        refine lv_astore_n (lv' := [(3, .ref q9), (0, .ref p0), (1, .int p1), (2, .ref po)]) hx hb dL_pass_15 rfl hl (by decide) rfl (fun ls hl => ?_)
        refine lv_iconst (v := 2) hx hb dL_pass_16 (by decide) ?_
        refine vx_ret ?_
        exact W.iret (v := 2) hx hb hr (fun t ht hW => ⟨⟨_, u, rfl, (Or.inr (Or.inr ⟨rfl, hw⟩)), z_endG hK hI ht hW⟩, z_F hI ht⟩) (z_locs hI) dL_pass_17
      · skip
        exact absurd hw (by simp [hE0, hE1])
  obtain ⟨L1, κ1, g1⟩ := u
  have hw : (1 ≤ p1 ∧ p1 ≤ 100) ∧ ¬ 9999 < t9 + p1 ∧ v = t9 + p1 ∧ ∃ g2 : Nat → Nat → Value, (L1, κ1, g1) = (L, κ, g2) ∧ zTk p0 rq 8 2 4 g g2 (t9 + p1) (if w9 ≤ 0 then h9 else w9) (if w9 ≤ 0 then w9 else 0) := hw
  have hko1 : κ1 po = 29 := by obtain ⟨_, _, _, g9, h9, _⟩ := hw; cases h9; exact hko
  refine lv_i2l hx hb dL_pass_7 rfl ?_
  refine lv_topl (fun w9 ew9 => ?_)
  refine z_last (g' := zup g1 po (0 : Int32).toNatClampNeg (.long w9)) hM hI hko1 rfl rfl (vp_in_c 0 1 (by decide)) ⟨(zup_self _ _ _ _).symm, _, rfl⟩ (fun b j h => zup_ne h) dL_pass_8 (fun H locs hI => ?_)
  refine lv_goto (tgt := 18) hx hb dL_pass_9 (by decide) ?_
  refine lv_iconst (v := 0) hx hb dL_pass_18 (by decide) ?_
  refine vx_ret ?_
  exact W.iret (v := 0) hx hb hr (fun t ht hW => ⟨⟨_, (L1, κ1, zup g1 po 0 (.long w9)), rfl, Or.inl ⟨rfl, v, (L1, κ1, g1), w9, hw, ew9, rfl⟩, z_endG hK hI ht hW⟩, z_F hI ht⟩) (z_locs hI) dL_pass_19

set_option maxHeartbeats 4000000 in
set_option maxRecDepth 100000 in
theorem c_L_speed (l : Launch) (hnt : l.stackTraces = false) (D : va_G) (tc : Nat → ClassId) (z0 : Nat) (L : List Nat) (κ : Nat → Nat) (g : Nat → Nat → Value) (sz : Nat) (p0 : Nat) (hk0 : κ p0 = 10) (p1 : Int32) (po : Nat) (hko : κ po = 29) (aC : Nat) (hC : g p0 1 = .ref aC) : vx_Met l yL_speed wsL_speed ({ frames := 8, cells := 1, slots := 6, locals := 141 }) (zPc D tc z0 [.ref p0, .int p1, .ref po] [] (L, κ, g) sz) (va_Qi (fun (r : Int32) (u : zS) => (r = 0 ∧ ∃ (r1 : Int32) (u1 : zS) (v9 : Int64), (zHas g aC 6 p1 ∧ u1 = (L, κ, g)) ∧ v9 = r1.toInt64 ∧ u = (u1.1, u1.2.1, zup u1.2.2 po 0 (.long v9))) ∨ (r = 1 ∧ ((("java/lang/IndexOutOfBoundsException" = "java/lang/IndexOutOfBoundsException" ∧ ¬ zHas g aC 6 p1)) ∧ u = (L, κ, g)))) (fun (u : zS) (t : State) => zB D tc (zA [] L sz) [] u t) (zA [] L sz)) (vx_X (fun u : zS => True) (fun (E : String) (u : zS) (t : State) => (False) ∧ zB D tc (zA [] L sz) [] u t) (zA [] L sz)) 1 6 (zA [] L sz) := by
  refine vx_ofWH (cc := cL_speed) (maxL := 4) (ret := (some .int)) (hh := [(0, 9, 12, 13)]) (by decide) rfl ?_
  intro p e s m args below meth c s₁ B hml hv
  obtain ⟨rfl, rfl, hK, hE, hI⟩ := hv.opn
  have hx := B.exec
  have hb := B.bytes
  have hr := B.returns
  have hts := atoms_spec (ws := wsL_speed) B.pre
  have hown : s.vm.findClass RL = some m.cls := findClass_of_methodNamed B.named
  have hlocks := B.notSynchronized
  have htab := vx_table (x := yL_speed) B (hts (.codeWith yL_speed cL_speed 4 (some .int) [(0, 9, 12, 13)]) List.mem_cons_self)
  have hM : zM p s m c cL_speed _ wsL_speed RL D tc := ⟨hx, hb, hts, hown, hK⟩
  have hl := lv_entry ([.ref p0, .int p1, .ref po]) (n := 4) (Nat.le_of_ble_eq_true rfl)
  rw [lg_entry_eq]
  generalize (lg_sl ([.ref p0, .int p1, .ref po]) ++ List.replicate (4 - (lg_sl ([.ref p0, .int p1, .ref po])).length) Slot.unset).toArray = ls at hl ⊢
  have hl : lv_has ls 4 [(0, .ref p0), (1, .int p1), (2, .ref po)] := hl
  refine lv_aload_n hx hb dL_speed_0 rfl (lv_at hl 2 rfl) ?_
  refine lv_iconst (v := 0) hx hb dL_speed_1 (by decide) ?_
  refine lv_aload_n hx hb dL_speed_2 rfl (lv_at hl 0 rfl) ?_
  refine lv_iload_n hx hb dL_speed_3 rfl (lv_at hl 1 rfl) ?_
  refine z_xi hI (vx_runV (As := [.int p1]) (rest := [.int 0, .ref po]) ⟨hx, hb, hml, hown, hts⟩ (c_X8_speed l hnt _ _ _ _ _ _ _ p0 hk0 p1 aC hC) (cwV 1 hts gL_speed_X8_speed rfl rfl rfl (by decide +kernel) ⟨Nat.le_of_ble_eq_true rfl, Nat.le_of_ble_eq_true rfl⟩) (z_preV hK hE hI [] rfl rfl (z_recv hK hI hk0 rfl rfl)) rfl rfl hl.1 rfl (lv_room (Nat.le_of_ble_eq_true rfl)) dL_speed_4 ⟨Nat.le_of_ble_eq_true rfl, Nat.le_of_ble_eq_true rfl⟩) (fun E ce q9 u H locs hw hI he1 he2 he3 => ?_) (fun v u H locs hw hI => ?_)
  · have hw : ((E = "java/lang/IndexOutOfBoundsException" ∧ ¬ zHas g aC 6 p1)) ∧ u = (L, κ, g) := hw
    by_cases hE0 : E = "java/lang/IndexOutOfBoundsException"
    · subst hE0
      refine vx_catch (name := "java/lang/IndexOutOfBoundsException") hown [] ⟨0, 9, 12, 13⟩ [] htab (fun z hz => nomatch hz) (by decide) (by decide) (hts (.classLink RL 13 "java/lang/IndexOutOfBoundsException") (by decide +kernel)) (va_Nw.use rfl (hE.1 (.castable "java/lang/IndexOutOfBoundsException" "java/lang/IndexOutOfBoundsException") (by decide +kernel) rfl)) he1 he2 he3 ?_
      show W p l e _ s m _ below meth c H locs _ _ _ (F0 m 12 ls [.ref q9])
      refine lv_astore_n (lv' := [(3, .ref q9), (0, .ref p0), (1, .int p1), (2, .ref po)]) hx hb dL_speed_12 rfl hl (by decide) rfl (fun ls hl => ?_)
      refine lv_iconst (v := 1) hx hb dL_speed_13 (by decide) ?_
      refine vx_ret ?_
      exact W.iret (v := 1) hx hb hr (fun t ht hW => ⟨⟨_, u, rfl, (Or.inr ⟨rfl, hw⟩), z_endG hK hI ht hW⟩, z_F hI ht⟩) (z_locs hI) dL_speed_14
    · skip
      exact absurd hw (by simp [hE0])
  obtain ⟨L1, κ1, g1⟩ := u
  have hw : zHas g aC 6 p1 ∧ (L1, κ1, g1) = (L, κ, g) := hw
  have hko1 : κ1 po = 29 := by (repeat (first | (cases hw; exact hko) | (obtain ⟨_, hw⟩ := hw)))
  refine lv_i2l hx hb dL_speed_7 rfl ?_
  refine lv_topl (fun w9 ew9 => ?_)
  refine z_last (g' := zup g1 po (0 : Int32).toNatClampNeg (.long w9)) hM hI hko1 rfl rfl (vp_in_c 0 1 (by decide)) ⟨(zup_self _ _ _ _).symm, _, rfl⟩ (fun b j h => zup_ne h) dL_speed_8 (fun H locs hI => ?_)
  refine lv_goto (tgt := 15) hx hb dL_speed_9 (by decide) ?_
  refine lv_iconst (v := 0) hx hb dL_speed_15 (by decide) ?_
  refine vx_ret ?_
  exact W.iret (v := 0) hx hb hr (fun t ht hW => ⟨⟨_, (L1, κ1, zup g1 po 0 (.long w9)), rfl, Or.inl ⟨rfl, v, (L1, κ1, g1), w9, hw, ew9, rfl⟩, z_endG hK hI ht hW⟩, z_F hI ht⟩) (z_locs hI) dL_speed_16

set_option maxHeartbeats 4000000 in
set_option maxRecDepth 100000 in
theorem c_L_wanted (l : Launch) (hnt : l.stackTraces = false) (D : va_G) (tc : Nat → ClassId) (z0 : Nat) (L : List Nat) (κ : Nat → Nat) (g : Nat → Nat → Value) (sz : Nat) (p0 : Nat) (hk0 : κ p0 = 10) (p1 : Int32) (po : Nat) (hko : κ po = 29) (aC : Nat) (hC : g p0 1 = .ref aC) : vx_Met l yL_wanted wsL_wanted ({ frames := 8, cells := 1, slots := 6, locals := 141 }) (zPc D tc z0 [.ref p0, .int p1, .ref po] [] (L, κ, g) sz) (va_Qi (fun (r : Int32) (u : zS) => (r = 0 ∧ ∃ (r1 : Int32) (u1 : zS) (v9 : Int64), (zHas g aC 6 p1 ∧ u1 = (L, κ, g)) ∧ v9 = r1.toInt64 ∧ u = (u1.1, u1.2.1, zup u1.2.2 po 0 (.long v9))) ∨ (r = 1 ∧ ((("java/lang/IndexOutOfBoundsException" = "java/lang/IndexOutOfBoundsException" ∧ ¬ zHas g aC 6 p1)) ∧ u = (L, κ, g)))) (fun (u : zS) (t : State) => zB D tc (zA [] L sz) [] u t) (zA [] L sz)) (vx_X (fun u : zS => True) (fun (E : String) (u : zS) (t : State) => (False) ∧ zB D tc (zA [] L sz) [] u t) (zA [] L sz)) 1 6 (zA [] L sz) := by
  refine vx_ofWH (cc := cL_wanted) (maxL := 4) (ret := (some .int)) (hh := [(0, 9, 12, 13)]) (by decide) rfl ?_
  intro p e s m args below meth c s₁ B hml hv
  obtain ⟨rfl, rfl, hK, hE, hI⟩ := hv.opn
  have hx := B.exec
  have hb := B.bytes
  have hr := B.returns
  have hts := atoms_spec (ws := wsL_wanted) B.pre
  have hown : s.vm.findClass RL = some m.cls := findClass_of_methodNamed B.named
  have hlocks := B.notSynchronized
  have htab := vx_table (x := yL_wanted) B (hts (.codeWith yL_wanted cL_wanted 4 (some .int) [(0, 9, 12, 13)]) List.mem_cons_self)
  have hM : zM p s m c cL_wanted _ wsL_wanted RL D tc := ⟨hx, hb, hts, hown, hK⟩
  have hl := lv_entry ([.ref p0, .int p1, .ref po]) (n := 4) (Nat.le_of_ble_eq_true rfl)
  rw [lg_entry_eq]
  generalize (lg_sl ([.ref p0, .int p1, .ref po]) ++ List.replicate (4 - (lg_sl ([.ref p0, .int p1, .ref po])).length) Slot.unset).toArray = ls at hl ⊢
  have hl : lv_has ls 4 [(0, .ref p0), (1, .int p1), (2, .ref po)] := hl
  refine lv_aload_n hx hb dL_wanted_0 rfl (lv_at hl 2 rfl) ?_
  refine lv_iconst (v := 0) hx hb dL_wanted_1 (by decide) ?_
  refine lv_aload_n hx hb dL_wanted_2 rfl (lv_at hl 0 rfl) ?_
  refine lv_iload_n hx hb dL_wanted_3 rfl (lv_at hl 1 rfl) ?_
  refine z_xi hI (vx_runV (As := [.int p1]) (rest := [.int 0, .ref po]) ⟨hx, hb, hml, hown, hts⟩ (c_X8_wanted l hnt _ _ _ _ _ _ _ p0 hk0 p1 aC hC) (cwV 1 hts gL_wanted_X8_wanted rfl rfl rfl (by decide +kernel) ⟨Nat.le_of_ble_eq_true rfl, Nat.le_of_ble_eq_true rfl⟩) (z_preV hK hE hI [] rfl rfl (z_recv hK hI hk0 rfl rfl)) rfl rfl hl.1 rfl (lv_room (Nat.le_of_ble_eq_true rfl)) dL_wanted_4 ⟨Nat.le_of_ble_eq_true rfl, Nat.le_of_ble_eq_true rfl⟩) (fun E ce q9 u H locs hw hI he1 he2 he3 => ?_) (fun v u H locs hw hI => ?_)
  · have hw : ((E = "java/lang/IndexOutOfBoundsException" ∧ ¬ zHas g aC 6 p1)) ∧ u = (L, κ, g) := hw
    by_cases hE0 : E = "java/lang/IndexOutOfBoundsException"
    · subst hE0
      refine vx_catch (name := "java/lang/IndexOutOfBoundsException") hown [] ⟨0, 9, 12, 13⟩ [] htab (fun z hz => nomatch hz) (by decide) (by decide) (hts (.classLink RL 13 "java/lang/IndexOutOfBoundsException") (by decide +kernel)) (va_Nw.use rfl (hE.1 (.castable "java/lang/IndexOutOfBoundsException" "java/lang/IndexOutOfBoundsException") (by decide +kernel) rfl)) he1 he2 he3 ?_
      show W p l e _ s m _ below meth c H locs _ _ _ (F0 m 12 ls [.ref q9])
      refine lv_astore_n (lv' := [(3, .ref q9), (0, .ref p0), (1, .int p1), (2, .ref po)]) hx hb dL_wanted_12 rfl hl (by decide) rfl (fun ls hl => ?_)
      refine lv_iconst (v := 1) hx hb dL_wanted_13 (by decide) ?_
      refine vx_ret ?_
      exact W.iret (v := 1) hx hb hr (fun t ht hW => ⟨⟨_, u, rfl, (Or.inr ⟨rfl, hw⟩), z_endG hK hI ht hW⟩, z_F hI ht⟩) (z_locs hI) dL_wanted_14
    · skip
      exact absurd hw (by simp [hE0])
  obtain ⟨L1, κ1, g1⟩ := u
  have hw : zHas g aC 6 p1 ∧ (L1, κ1, g1) = (L, κ, g) := hw
  have hko1 : κ1 po = 29 := by (repeat (first | (cases hw; exact hko) | (obtain ⟨_, hw⟩ := hw)))
  refine lv_i2l hx hb dL_wanted_7 rfl ?_
  refine lv_topl (fun w9 ew9 => ?_)
  refine z_last (g' := zup g1 po (0 : Int32).toNatClampNeg (.long w9)) hM hI hko1 rfl rfl (vp_in_c 0 1 (by decide)) ⟨(zup_self _ _ _ _).symm, _, rfl⟩ (fun b j h => zup_ne h) dL_wanted_8 (fun H locs hI => ?_)
  refine lv_goto (tgt := 15) hx hb dL_wanted_9 (by decide) ?_
  refine lv_iconst (v := 0) hx hb dL_wanted_15 (by decide) ?_
  refine vx_ret ?_
  exact W.iret (v := 0) hx hb hr (fun t ht hW => ⟨⟨_, (L1, κ1, zup g1 po 0 (.long w9)), rfl, Or.inl ⟨rfl, v, (L1, κ1, g1), w9, hw, ew9, rfl⟩, z_endG hK hI ht hW⟩, z_F hI ht⟩) (z_locs hI) dL_wanted_16

set_option maxHeartbeats 4000000 in
set_option maxRecDepth 100000 in
theorem c_L_clamp (l : Launch) (hnt : l.stackTraces = false) (D : va_G) (tc : Nat → ClassId) (z0 : Nat) (L : List Nat) (κ : Nat → Nat) (g : Nat → Nat → Value) (sz : Nat) (p0 : Nat) (hk0 : κ p0 = 10) (p1 : Int32) (po : Nat) (hko : κ po = 29) (aC : Nat) (hC : g p0 1 = .ref aC) : vx_Met l yL_clamp wsL_clamp ({ frames := 8, cells := 1, slots := 6, locals := 141 }) (zPc D tc z0 [.ref p0, .int p1, .ref po] [] (L, κ, g) sz) (va_Qi (fun (r : Int32) (u : zS) => (r = 0 ∧ ∃ (r1 : Int32) (u1 : zS) (v9 : Int64), (zHas g aC 6 p1 ∧ u1 = (L, κ, g)) ∧ v9 = r1.toInt64 ∧ u = (u1.1, u1.2.1, zup u1.2.2 po 0 (.long v9))) ∨ (r = 1 ∧ ((("java/lang/IndexOutOfBoundsException" = "java/lang/IndexOutOfBoundsException" ∧ ¬ zHas g aC 6 p1)) ∧ u = (L, κ, g)))) (fun (u : zS) (t : State) => zB D tc (zA [] L sz) [] u t) (zA [] L sz)) (vx_X (fun u : zS => True) (fun (E : String) (u : zS) (t : State) => (False) ∧ zB D tc (zA [] L sz) [] u t) (zA [] L sz)) 1 6 (zA [] L sz) := by
  refine vx_ofWH (cc := cL_clamp) (maxL := 4) (ret := (some .int)) (hh := [(0, 9, 12, 13)]) (by decide) rfl ?_
  intro p e s m args below meth c s₁ B hml hv
  obtain ⟨rfl, rfl, hK, hE, hI⟩ := hv.opn
  have hx := B.exec
  have hb := B.bytes
  have hr := B.returns
  have hts := atoms_spec (ws := wsL_clamp) B.pre
  have hown : s.vm.findClass RL = some m.cls := findClass_of_methodNamed B.named
  have hlocks := B.notSynchronized
  have htab := vx_table (x := yL_clamp) B (hts (.codeWith yL_clamp cL_clamp 4 (some .int) [(0, 9, 12, 13)]) List.mem_cons_self)
  have hM : zM p s m c cL_clamp _ wsL_clamp RL D tc := ⟨hx, hb, hts, hown, hK⟩
  have hl := lv_entry ([.ref p0, .int p1, .ref po]) (n := 4) (Nat.le_of_ble_eq_true rfl)
  rw [lg_entry_eq]
  generalize (lg_sl ([.ref p0, .int p1, .ref po]) ++ List.replicate (4 - (lg_sl ([.ref p0, .int p1, .ref po])).length) Slot.unset).toArray = ls at hl ⊢
  have hl : lv_has ls 4 [(0, .ref p0), (1, .int p1), (2, .ref po)] := hl
  refine lv_aload_n hx hb dL_clamp_0 rfl (lv_at hl 2 rfl) ?_
  refine lv_iconst (v := 0) hx hb dL_clamp_1 (by decide) ?_
  refine lv_aload_n hx hb dL_clamp_2 rfl (lv_at hl 0 rfl) ?_
  refine lv_iload_n hx hb dL_clamp_3 rfl (lv_at hl 1 rfl) ?_
  refine z_xi hI (vx_runV (As := [.int p1]) (rest := [.int 0, .ref po]) ⟨hx, hb, hml, hown, hts⟩ (c_X8_clamp l hnt _ _ _ _ _ _ _ p0 hk0 p1 aC hC) (cwV 1 hts gL_clamp_X8_clamp rfl rfl rfl (by decide +kernel) ⟨Nat.le_of_ble_eq_true rfl, Nat.le_of_ble_eq_true rfl⟩) (z_preV hK hE hI [] rfl rfl (z_recv hK hI hk0 rfl rfl)) rfl rfl hl.1 rfl (lv_room (Nat.le_of_ble_eq_true rfl)) dL_clamp_4 ⟨Nat.le_of_ble_eq_true rfl, Nat.le_of_ble_eq_true rfl⟩) (fun E ce q9 u H locs hw hI he1 he2 he3 => ?_) (fun v u H locs hw hI => ?_)
  · have hw : ((E = "java/lang/IndexOutOfBoundsException" ∧ ¬ zHas g aC 6 p1)) ∧ u = (L, κ, g) := hw
    by_cases hE0 : E = "java/lang/IndexOutOfBoundsException"
    · subst hE0
      refine vx_catch (name := "java/lang/IndexOutOfBoundsException") hown [] ⟨0, 9, 12, 13⟩ [] htab (fun z hz => nomatch hz) (by decide) (by decide) (hts (.classLink RL 13 "java/lang/IndexOutOfBoundsException") (by decide +kernel)) (va_Nw.use rfl (hE.1 (.castable "java/lang/IndexOutOfBoundsException" "java/lang/IndexOutOfBoundsException") (by decide +kernel) rfl)) he1 he2 he3 ?_
      show W p l e _ s m _ below meth c H locs _ _ _ (F0 m 12 ls [.ref q9])
      refine lv_astore_n (lv' := [(3, .ref q9), (0, .ref p0), (1, .int p1), (2, .ref po)]) hx hb dL_clamp_12 rfl hl (by decide) rfl (fun ls hl => ?_)
      refine lv_iconst (v := 1) hx hb dL_clamp_13 (by decide) ?_
      refine vx_ret ?_
      exact W.iret (v := 1) hx hb hr (fun t ht hW => ⟨⟨_, u, rfl, (Or.inr ⟨rfl, hw⟩), z_endG hK hI ht hW⟩, z_F hI ht⟩) (z_locs hI) dL_clamp_14
    · skip
      exact absurd hw (by simp [hE0])
  obtain ⟨L1, κ1, g1⟩ := u
  have hw : zHas g aC 6 p1 ∧ (L1, κ1, g1) = (L, κ, g) := hw
  have hko1 : κ1 po = 29 := by (repeat (first | (cases hw; exact hko) | (obtain ⟨_, hw⟩ := hw)))
  refine lv_i2l hx hb dL_clamp_7 rfl ?_
  refine lv_topl (fun w9 ew9 => ?_)
  refine z_last (g' := zup g1 po (0 : Int32).toNatClampNeg (.long w9)) hM hI hko1 rfl rfl (vp_in_c 0 1 (by decide)) ⟨(zup_self _ _ _ _).symm, _, rfl⟩ (fun b j h => zup_ne h) dL_clamp_8 (fun H locs hI => ?_)
  refine lv_goto (tgt := 15) hx hb dL_clamp_9 (by decide) ?_
  refine lv_iconst (v := 0) hx hb dL_clamp_15 (by decide) ?_
  refine vx_ret ?_
  exact W.iret (v := 0) hx hb hr (fun t ht hW => ⟨⟨_, (L1, κ1, zup g1 po 0 (.long w9)), rfl, Or.inl ⟨rfl, v, (L1, κ1, g1), w9, hw, ew9, rfl⟩, z_endG hK hI ht hW⟩, z_F hI ht⟩) (z_locs hI) dL_clamp_16

set_option maxHeartbeats 4000000 in
set_option maxRecDepth 100000 in
theorem c_L_sleep (l : Launch) (hnt : l.stackTraces = false) (D : va_G) (tc : Nat → ClassId) (z0 : Nat) (L : List Nat) (κ : Nat → Nat) (g : Nat → Nat → Value) (sz : Nat) (p0 : Nat) (hk0 : κ p0 = 10) (p1 : Int32) (po : Nat) (hko : κ po = 29) (aC : Nat) (hC : g p0 1 = .ref aC) : vx_Met l yL_sleep wsL_sleep ({ frames := 8, cells := 1, slots := 6, locals := 141 }) (zPc D tc z0 [.ref p0, .int p1, .ref po] [] (L, κ, g) sz) (va_Qi (fun (r : Int32) (u : zS) => (r = 0 ∧ ∃ (r1 : Int32) (u1 : zS) (v9 : Int64), (zHas g aC 6 p1 ∧ u1 = (L, κ, g)) ∧ v9 = r1.toInt64 ∧ u = (u1.1, u1.2.1, zup u1.2.2 po 0 (.long v9))) ∨ (r = 1 ∧ ((("java/lang/IndexOutOfBoundsException" = "java/lang/IndexOutOfBoundsException" ∧ ¬ zHas g aC 6 p1)) ∧ u = (L, κ, g)))) (fun (u : zS) (t : State) => zB D tc (zA [] L sz) [] u t) (zA [] L sz)) (vx_X (fun u : zS => True) (fun (E : String) (u : zS) (t : State) => (False) ∧ zB D tc (zA [] L sz) [] u t) (zA [] L sz)) 1 6 (zA [] L sz) := by
  refine vx_ofWH (cc := cL_sleep) (maxL := 4) (ret := (some .int)) (hh := [(0, 9, 12, 13)]) (by decide) rfl ?_
  intro p e s m args below meth c s₁ B hml hv
  obtain ⟨rfl, rfl, hK, hE, hI⟩ := hv.opn
  have hx := B.exec
  have hb := B.bytes
  have hr := B.returns
  have hts := atoms_spec (ws := wsL_sleep) B.pre
  have hown : s.vm.findClass RL = some m.cls := findClass_of_methodNamed B.named
  have hlocks := B.notSynchronized
  have htab := vx_table (x := yL_sleep) B (hts (.codeWith yL_sleep cL_sleep 4 (some .int) [(0, 9, 12, 13)]) List.mem_cons_self)
  have hM : zM p s m c cL_sleep _ wsL_sleep RL D tc := ⟨hx, hb, hts, hown, hK⟩
  have hl := lv_entry ([.ref p0, .int p1, .ref po]) (n := 4) (Nat.le_of_ble_eq_true rfl)
  rw [lg_entry_eq]
  generalize (lg_sl ([.ref p0, .int p1, .ref po]) ++ List.replicate (4 - (lg_sl ([.ref p0, .int p1, .ref po])).length) Slot.unset).toArray = ls at hl ⊢
  have hl : lv_has ls 4 [(0, .ref p0), (1, .int p1), (2, .ref po)] := hl
  refine lv_aload_n hx hb dL_sleep_0 rfl (lv_at hl 2 rfl) ?_
  refine lv_iconst (v := 0) hx hb dL_sleep_1 (by decide) ?_
  refine lv_aload_n hx hb dL_sleep_2 rfl (lv_at hl 0 rfl) ?_
  refine lv_iload_n hx hb dL_sleep_3 rfl (lv_at hl 1 rfl) ?_
  refine z_xi hI (vx_runV (As := [.int p1]) (rest := [.int 0, .ref po]) ⟨hx, hb, hml, hown, hts⟩ (c_X8_sleep l hnt _ _ _ _ _ _ _ p0 hk0 p1 aC hC) (cwV 1 hts gL_sleep_X8_sleep rfl rfl rfl (by decide +kernel) ⟨Nat.le_of_ble_eq_true rfl, Nat.le_of_ble_eq_true rfl⟩) (z_preV hK hE hI [] rfl rfl (z_recv hK hI hk0 rfl rfl)) rfl rfl hl.1 rfl (lv_room (Nat.le_of_ble_eq_true rfl)) dL_sleep_4 ⟨Nat.le_of_ble_eq_true rfl, Nat.le_of_ble_eq_true rfl⟩) (fun E ce q9 u H locs hw hI he1 he2 he3 => ?_) (fun v u H locs hw hI => ?_)
  · have hw : ((E = "java/lang/IndexOutOfBoundsException" ∧ ¬ zHas g aC 6 p1)) ∧ u = (L, κ, g) := hw
    by_cases hE0 : E = "java/lang/IndexOutOfBoundsException"
    · subst hE0
      refine vx_catch (name := "java/lang/IndexOutOfBoundsException") hown [] ⟨0, 9, 12, 13⟩ [] htab (fun z hz => nomatch hz) (by decide) (by decide) (hts (.classLink RL 13 "java/lang/IndexOutOfBoundsException") (by decide +kernel)) (va_Nw.use rfl (hE.1 (.castable "java/lang/IndexOutOfBoundsException" "java/lang/IndexOutOfBoundsException") (by decide +kernel) rfl)) he1 he2 he3 ?_
      show W p l e _ s m _ below meth c H locs _ _ _ (F0 m 12 ls [.ref q9])
      refine lv_astore_n (lv' := [(3, .ref q9), (0, .ref p0), (1, .int p1), (2, .ref po)]) hx hb dL_sleep_12 rfl hl (by decide) rfl (fun ls hl => ?_)
      refine lv_iconst (v := 1) hx hb dL_sleep_13 (by decide) ?_
      refine vx_ret ?_
      exact W.iret (v := 1) hx hb hr (fun t ht hW => ⟨⟨_, u, rfl, (Or.inr ⟨rfl, hw⟩), z_endG hK hI ht hW⟩, z_F hI ht⟩) (z_locs hI) dL_sleep_14
    · skip
      exact absurd hw (by simp [hE0])
  obtain ⟨L1, κ1, g1⟩ := u
  have hw : zHas g aC 6 p1 ∧ (L1, κ1, g1) = (L, κ, g) := hw
  have hko1 : κ1 po = 29 := by (repeat (first | (cases hw; exact hko) | (obtain ⟨_, hw⟩ := hw)))
  refine lv_i2l hx hb dL_sleep_7 rfl ?_
  refine lv_topl (fun w9 ew9 => ?_)
  refine z_last (g' := zup g1 po (0 : Int32).toNatClampNeg (.long w9)) hM hI hko1 rfl rfl (vp_in_c 0 1 (by decide)) ⟨(zup_self _ _ _ _).symm, _, rfl⟩ (fun b j h => zup_ne h) dL_sleep_8 (fun H locs hI => ?_)
  refine lv_goto (tgt := 15) hx hb dL_sleep_9 (by decide) ?_
  refine lv_iconst (v := 0) hx hb dL_sleep_15 (by decide) ?_
  refine vx_ret ?_
  exact W.iret (v := 0) hx hb hr (fun t ht hW => ⟨⟨_, (L1, κ1, zup g1 po 0 (.long w9)), rfl, Or.inl ⟨rfl, v, (L1, κ1, g1), w9, hw, ew9, rfl⟩, z_endG hK hI ht hW⟩, z_F hI ht⟩) (z_locs hI) dL_sleep_16

set_option maxHeartbeats 4000000 in
set_option maxRecDepth 100000 in
theorem c_L_isBusy (l : Launch) (hnt : l.stackTraces = false) (D : va_G) (tc : Nat → ClassId) (z0 : Nat) (L : List Nat) (κ : Nat → Nat) (g : Nat → Nat → Value) (sz : Nat) (p0 : Nat) (hk0 : κ p0 = 10) (p1 : Int32) (po : Nat) (hko : κ po = 29) (aC : Nat) (hC : g p0 1 = .ref aC) : vx_Met l yL_isBusy wsL_isBusy ({ frames := 8, cells := 1, slots := 6, locals := 141 }) (zPc D tc z0 [.ref p0, .int p1, .ref po] [] (L, κ, g) sz) (va_Qi (fun (r : Int32) (u : zS) => (r = 0 ∧ ∃ (r1 : Int32) (u1 : zS) (v9 : Int64), (zHas g aC 6 p1 ∧ u1 = (L, κ, g)) ∧ v9 = (if r1 = 0 then 0 else 1) ∧ u = (u1.1, u1.2.1, zup u1.2.2 po 0 (.long v9))) ∨ (r = 1 ∧ ((("java/lang/IndexOutOfBoundsException" = "java/lang/IndexOutOfBoundsException" ∧ ¬ zHas g aC 6 p1)) ∧ u = (L, κ, g)))) (fun (u : zS) (t : State) => zB D tc (zA [] L sz) [] u t) (zA [] L sz)) (vx_X (fun u : zS => True) (fun (E : String) (u : zS) (t : State) => (False) ∧ zB D tc (zA [] L sz) [] u t) (zA [] L sz)) 1 6 (zA [] L sz) := by
  refine vx_ofWH (cc := cL_isBusy) (maxL := 4) (ret := (some .int)) (hh := [(0, 16, 19, 13)]) (by decide) rfl ?_
  intro p e s m args below meth c s₁ B hml hv
  obtain ⟨rfl, rfl, hK, hE, hI⟩ := hv.opn
  have hx := B.exec
  have hb := B.bytes
  have hr := B.returns
  have hts := atoms_spec (ws := wsL_isBusy) B.pre
  have hown : s.vm.findClass RL = some m.cls := findClass_of_methodNamed B.named
  have hlocks := B.notSynchronized
  have htab := vx_table (x := yL_isBusy) B (hts (.codeWith yL_isBusy cL_isBusy 4 (some .int) [(0, 16, 19, 13)]) List.mem_cons_self)
  have hM : zM p s m c cL_isBusy _ wsL_isBusy RL D tc := ⟨hx, hb, hts, hown, hK⟩
  have hl := lv_entry ([.ref p0, .int p1, .ref po]) (n := 4) (Nat.le_of_ble_eq_true rfl)
  rw [lg_entry_eq]
  generalize (lg_sl ([.ref p0, .int p1, .ref po]) ++ List.replicate (4 - (lg_sl ([.ref p0, .int p1, .ref po])).length) Slot.unset).toArray = ls at hl ⊢
  have hl : lv_has ls 4 [(0, .ref p0), (1, .int p1), (2, .ref po)] := hl
  refine lv_aload_n hx hb dL_isBusy_0 rfl (lv_at hl 2 rfl) ?_
  refine lv_iconst (v := 0) hx hb dL_isBusy_1 (by decide) ?_
  refine lv_aload_n hx hb dL_isBusy_2 rfl (lv_at hl 0 rfl) ?_
  refine lv_iload_n hx hb dL_isBusy_3 rfl (lv_at hl 1 rfl) ?_
  refine z_xi hI (vx_runV (As := [.int p1]) (rest := [.int 0, .ref po]) ⟨hx, hb, hml, hown, hts⟩ (c_X8_isBusy l hnt _ _ _ _ _ _ _ p0 hk0 p1 aC hC) (cwV 1 hts gL_isBusy_X8_isBusy rfl rfl rfl (by decide +kernel) ⟨Nat.le_of_ble_eq_true rfl, Nat.le_of_ble_eq_true rfl⟩) (z_preV hK hE hI [] rfl rfl (z_recv hK hI hk0 rfl rfl)) rfl rfl hl.1 rfl (lv_room (Nat.le_of_ble_eq_true rfl)) dL_isBusy_4 ⟨Nat.le_of_ble_eq_true rfl, Nat.le_of_ble_eq_true rfl⟩) (fun E ce q9 u H locs hw hI he1 he2 he3 => ?_) (fun v u H locs hw hI => ?_)
  · have hw : ((E = "java/lang/IndexOutOfBoundsException" ∧ ¬ zHas g aC 6 p1)) ∧ u = (L, κ, g) := hw
    by_cases hE0 : E = "java/lang/IndexOutOfBoundsException"
    · subst hE0
      refine vx_catch (name := "java/lang/IndexOutOfBoundsException") hown [] ⟨0, 16, 19, 13⟩ [] htab (fun z hz => nomatch hz) (by decide) (by decide) (hts (.classLink RL 13 "java/lang/IndexOutOfBoundsException") (by decide +kernel)) (va_Nw.use rfl (hE.1 (.castable "java/lang/IndexOutOfBoundsException" "java/lang/IndexOutOfBoundsException") (by decide +kernel) rfl)) he1 he2 he3 ?_
      show W p l e _ s m _ below meth c H locs _ _ _ (F0 m 19 ls [.ref q9])
      refine lv_astore_n (lv' := [(3, .ref q9), (0, .ref p0), (1, .int p1), (2, .ref po)]) hx hb dL_isBusy_19 rfl hl (by decide) rfl (fun ls hl => ?_)
      refine lv_iconst (v := 1) hx hb dL_isBusy_20 (by decide) ?_
      refine vx_ret ?_
      exact W.iret (v := 1) hx hb hr (fun t ht hW => ⟨⟨_, u, rfl, (Or.inr ⟨rfl, hw⟩), z_endG hK hI ht hW⟩, z_F hI ht⟩) (z_locs hI) dL_isBusy_21
    · skip
      exact absurd hw (by simp [hE0])
  obtain ⟨L1, κ1, g1⟩ := u
  have hw : zHas g aC 6 p1 ∧ (L1, κ1, g1) = (L, κ, g) := hw
  have hko1 : κ1 po = 29 := by (repeat (first | (cases hw; exact hko) | (obtain ⟨_, hw⟩ := hw)))
  refine lv_if_eq (tgt := 14) hx hb dL_isBusy_7 (by decide) (fun cz => ?_) (fun cz => ?_)
  · refine lv_lconst (v := 0) hx hb dL_isBusy_14 (by decide) ?_
    refine z_last (g' := zup g1 po (0 : Int32).toNatClampNeg (.long 0)) hM hI hko1 rfl rfl (vp_in_c 0 1 (by decide)) ⟨(zup_self _ _ _ _).symm, _, rfl⟩ (fun b j h => zup_ne h) dL_isBusy_15 (fun H locs hI => ?_)
    refine lv_goto (tgt := 22) hx hb dL_isBusy_16 (by decide) ?_
    refine lv_iconst (v := 0) hx hb dL_isBusy_22 (by decide) ?_
    refine vx_ret ?_
    exact W.iret (v := 0) hx hb hr (fun t ht hW => ⟨⟨_, (L1, κ1, zup g1 po 0 (.long 0)), rfl, Or.inl ⟨rfl, v, (L1, κ1, g1), 0, hw, (if_pos cz).symm, rfl⟩, z_endG hK hI ht hW⟩, z_F hI ht⟩) (z_locs hI) dL_isBusy_23
  · refine lv_lconst (v := 1) hx hb dL_isBusy_10 (by decide) ?_
    refine lv_goto (tgt := 15) hx hb dL_isBusy_11 (by decide) ?_
    refine z_last (g' := zup g1 po (0 : Int32).toNatClampNeg (.long 1)) hM hI hko1 rfl rfl (vp_in_c 0 1 (by decide)) ⟨(zup_self _ _ _ _).symm, _, rfl⟩ (fun b j h => zup_ne h) dL_isBusy_15 (fun H locs hI => ?_)
    refine lv_goto (tgt := 22) hx hb dL_isBusy_16 (by decide) ?_
    refine lv_iconst (v := 0) hx hb dL_isBusy_22 (by decide) ?_
    refine vx_ret ?_
    exact W.iret (v := 0) hx hb hr (fun t ht hW => ⟨⟨_, (L1, κ1, zup g1 po 0 (.long 1)), rfl, Or.inl ⟨rfl, v, (L1, κ1, g1), 1, hw, (if_neg cz).symm, rfl⟩, z_endG hK hI ht hW⟩, z_F hI ht⟩) (z_locs hI) dL_isBusy_23

set_option maxHeartbeats 4000000 in
set_option maxRecDepth 100000 in
theorem c_L_need (l : Launch) (hnt : l.stackTraces = false) (D : va_G) (tc : Nat → ClassId) (z0 : Nat) (L : List Nat) (κ : Nat → Nat) (g : Nat → Nat → Value) (sz : Nat) (p0 : Nat) (hk0 : κ p0 = 10) (p1 : Int32) (p2 : Int32) (po : Nat) (hko : κ po = 29) (aC : Nat) (hC : g p0 1 = .ref aC) : vx_Met l yL_need wsL_need ({ frames := 8, cells := 2, slots := 12, locals := 143 }) (zPc D tc z0 [.ref p0, .int p1, .int p2, .ref po] [] (L, κ, g) sz) (va_Qi (fun (r : Int32) (u : zS) => (r = 0 ∧ ∃ (r1 : Int32) (u1 : zS) (v9 : Int64), (zHas g aC 6 p1 ∧ u1 = (L, κ, g)) ∧ v9 = r1.toInt64 ∧ u = (u1.1, u1.2.1, zup u1.2.2 po 0 (.long v9))) ∨ (r = 1 ∧ ((("java/lang/IndexOutOfBoundsException" = "java/lang/IndexOutOfBoundsException" ∧ ¬ zHas g aC 6 p1) ∨ ("java/lang/IndexOutOfBoundsException" = "java/lang/IllegalArgumentException")) ∧ u = (L, κ, g))) ∨ (r = 2 ∧ ((("java/lang/IllegalArgumentException" = "java/lang/IndexOutOfBoundsException" ∧ ¬ zHas g aC 6 p1) ∨ ("java/lang/IllegalArgumentException" = "java/lang/IllegalArgumentException")) ∧ u = (L, κ, g)))) (fun (u : zS) (t : State) => zB D tc (zA [] L sz) [] u t) (zA [] L sz)) (vx_X (fun u : zS => True) (fun (E : String) (u : zS) (t : State) => (False) ∧ zB D tc (zA [] L sz) [] u t) (zA [] L sz)) 2 12 (zA [] L sz) := by
  refine vx_ofWH (cc := cL_need) (maxL := 5) (ret := (some .int)) (hh := [(0, 10, 13, 13), (0, 10, 17, 15)]) (by decide) rfl ?_
  intro p e s m args below meth c s₁ B hml hv
  obtain ⟨rfl, rfl, hK, hE, hI⟩ := hv.opn
  have hx := B.exec
  have hb := B.bytes
  have hr := B.returns
  have hts := atoms_spec (ws := wsL_need) B.pre
  have hown : s.vm.findClass RL = some m.cls := findClass_of_methodNamed B.named
  have hlocks := B.notSynchronized
  have htab := vx_table (x := yL_need) B (hts (.codeWith yL_need cL_need 5 (some .int) [(0, 10, 13, 13), (0, 10, 17, 15)]) List.mem_cons_self)
  have hM : zM p s m c cL_need _ wsL_need RL D tc := ⟨hx, hb, hts, hown, hK⟩
  have hl := lv_entry ([.ref p0, .int p1, .int p2, .ref po]) (n := 5) (Nat.le_of_ble_eq_true rfl)
  rw [lg_entry_eq]
  generalize (lg_sl ([.ref p0, .int p1, .int p2, .ref po]) ++ List.replicate (5 - (lg_sl ([.ref p0, .int p1, .int p2, .ref po])).length) Slot.unset).toArray = ls at hl ⊢
  have hl : lv_has ls 5 [(0, .ref p0), (1, .int p1), (2, .int p2), (3, .ref po)] := hl
  refine lv_aload_n hx hb dL_need_0 rfl (lv_at hl 3 rfl) ?_
  refine lv_iconst (v := 0) hx hb dL_need_1 (by decide) ?_
  refine lv_aload_n hx hb dL_need_2 rfl (lv_at hl 0 rfl) ?_
  refine lv_iload_n hx hb dL_need_3 rfl (lv_at hl 1 rfl) ?_
  refine lv_iload_n hx hb dL_need_4 rfl (lv_at hl 2 rfl) ?_
  refine z_xi hI (vx_runV (As := [.int p1, .int p2]) (rest := [.int 0, .ref po]) ⟨hx, hb, hml, hown, hts⟩ (c_X8_need l hnt _ _ _ _ _ _ _ p0 hk0 p1 p2 aC hC) (cwV 2 hts gL_need_X8_need rfl rfl rfl (by decide +kernel) ⟨Nat.le_of_ble_eq_true rfl, Nat.le_of_ble_eq_true rfl⟩) (z_preV hK hE hI [] rfl rfl (z_recv hK hI hk0 rfl rfl)) rfl rfl hl.1 rfl (lv_room (Nat.le_of_ble_eq_true rfl)) dL_need_5 ⟨Nat.le_of_ble_eq_true rfl, Nat.le_of_ble_eq_true rfl⟩) (fun E ce q9 u H locs hw hI he1 he2 he3 => ?_) (fun v u H locs hw hI => ?_)
  · have hw : ((E = "java/lang/IndexOutOfBoundsException" ∧ ¬ zHas g aC 6 p1) ∨ (E = "java/lang/IllegalArgumentException")) ∧ u = (L, κ, g) := hw
    by_cases hE0 : E = "java/lang/IndexOutOfBoundsException"
    · subst hE0
      refine vx_catch (name := "java/lang/IndexOutOfBoundsException") hown [] ⟨0, 10, 13, 13⟩ [⟨0, 10, 17, 15⟩] htab (fun z hz => nomatch hz) (by decide) (by decide) (hts (.classLink RL 13 "java/lang/IndexOutOfBoundsException") (by decide +kernel)) (va_Nw.use rfl (hE.1 (.castable "java/lang/IndexOutOfBoundsException" "java/lang/IndexOutOfBoundsException") (by decide +kernel) rfl)) he1 he2 he3 ?_
      show W p l e _ s m _ below meth c H locs _ _ _ (F0 m 13 ls [.ref q9])
      refine lv_astore (lv' := [(4, .ref q9), (0, .ref p0), (1, .int p1), (2, .int p2), (3, .ref po)]) hx hb dL_need_13 hl (by decide) rfl (fun ls hl => ?_)
      refine lv_iconst (v := 1) hx hb dL_need_15 (by decide) ?_
      refine vx_ret ?_
      exact W.iret (v := 1) hx hb hr (fun t ht hW => ⟨⟨_, u, rfl, (Or.inr (Or.inl ⟨rfl, hw⟩)), z_endG hK hI ht hW⟩, z_F hI ht⟩) (z_locs hI) dL_need_16
    · skip
      by_cases hE1 : E = "java/lang/IllegalArgumentException"
      · subst hE1
        refine vx_catch (name := "java/lang/IllegalArgumentException") hown [⟨0, 10, 13, 13⟩] ⟨0, 10, 17, 15⟩ [] htab (List.forall_mem_cons.mpr ⟨Or.inr ⟨by decide, "java/lang/IndexOutOfBoundsException", hts (.classLink RL 13 "java/lang/IndexOutOfBoundsException") (by decide +kernel), hE.2.2.2.1 ("java/lang/IllegalArgumentException", "java/lang/IndexOutOfBoundsException") (by decide +kernel)⟩, (fun _ h => absurd h List.not_mem_nil)⟩) (by decide) (by decide) (hts (.classLink RL 15 "java/lang/IllegalArgumentException") (by decide +kernel)) (va_Nw.use rfl (hE.1 (.castable "java/lang/IllegalArgumentException" "java/lang/IllegalArgumentException") (by decide +kernel) rfl)) he1 he2 he3 ?_
        show W p l e _ s m _ below meth c H locs _ _ _ (F0 m 17 ls [.ref q9])
        refine lv_astore (lv' := [(4, .ref q9), (0, .ref p0), (1, .int p1), (2, .int p2), (3, .ref po)]) hx hb dL_need_17 hl (by decide) rfl (fun ls hl => ?_)
        refine lv_iconst (v := 2) hx hb dL_need_19 (by decide) ?_
        refine vx_ret ?_
        exact W.iret (v := 2) hx hb hr (fun t ht hW => ⟨⟨_, u, rfl, (Or.inr (Or.inr ⟨rfl, hw⟩)), z_endG hK hI ht hW⟩, z_F hI ht⟩) (z_locs hI) dL_need_20
      · skip
        exact absurd hw (by simp [hE0, hE1])
  obtain ⟨L1, κ1, g1⟩ := u
  have hw : zHas g aC 6 p1 ∧ (L1, κ1, g1) = (L, κ, g) := hw
  have hko1 : κ1 po = 29 := by (repeat (first | (cases hw; exact hko) | (obtain ⟨_, hw⟩ := hw)))
  refine lv_i2l hx hb dL_need_8 rfl ?_
  refine lv_topl (fun w9 ew9 => ?_)
  refine z_last (g' := zup g1 po (0 : Int32).toNatClampNeg (.long w9)) hM hI hko1 rfl rfl (vp_in_c 0 1 (by decide)) ⟨(zup_self _ _ _ _).symm, _, rfl⟩ (fun b j h => zup_ne h) dL_need_9 (fun H locs hI => ?_)
  refine lv_goto (tgt := 21) hx hb dL_need_10 (by decide) ?_
  refine lv_iconst (v := 0) hx hb dL_need_21 (by decide) ?_
  refine vx_ret ?_
  exact W.iret (v := 0) hx hb hr (fun t ht hW => ⟨⟨_, (L1, κ1, zup g1 po 0 (.long w9)), rfl, Or.inl ⟨rfl, v, (L1, κ1, g1), w9, hw, ew9, rfl⟩, z_endG hK hI ht hW⟩, z_F hI ht⟩) (z_locs hI) dL_need_22

set_option maxHeartbeats 4000000 in
set_option maxRecDepth 100000 in
theorem c_L_volts (l : Launch) (hnt : l.stackTraces = false) (D : va_G) (tc : Nat → ClassId) (z0 : Nat) (L : List Nat) (κ : Nat → Nat) (g : Nat → Nat → Value) (sz : Nat) (p0 : Nat) (hk0 : κ p0 = 10) (p1 : Int32) (po : Nat) (hko : κ po = 29) : vx_Met l yL_volts wsL_volts ({ frames := 8, cells := 1, slots := 6, locals := 141 }) (zPc D tc z0 [.ref p0, .int p1, .ref po] [] (L, κ, g) sz) (va_Qi (fun (r : Int32) (u : zS) => (r = 0 ∧ ∃ (r1 : Int32) (u1 : zS) (v9 : Int64), (vp_in p1 3 ∧ u1 = (L, κ, g)) ∧ v9 = r1.toInt64 ∧ u = (u1.1, u1.2.1, zup u1.2.2 po 0 (.long v9))) ∨ (r = 1 ∧ (("java/lang/IndexOutOfBoundsException" = "java/lang/IndexOutOfBoundsException" ∧ ¬ vp_in p1 3) ∧ u = (L, κ, g)))) (fun (u : zS) (t : State) => zB D tc (zA [] L sz) [] u t) (zA [] L sz)) (vx_X (fun u : zS => True) (fun (E : String) (u : zS) (t : State) => (False) ∧ zB D tc (zA [] L sz) [] u t) (zA [] L sz)) 1 6 (zA [] L sz) := by
  refine vx_ofWH (cc := cL_volts) (maxL := 4) (ret := (some .int)) (hh := [(0, 9, 12, 13)]) (by decide) rfl ?_
  intro p e s m args below meth c s₁ B hml hv
  obtain ⟨rfl, rfl, hK, hE, hI⟩ := hv.opn
  have hx := B.exec
  have hb := B.bytes
  have hr := B.returns
  have hts := atoms_spec (ws := wsL_volts) B.pre
  have hown : s.vm.findClass RL = some m.cls := findClass_of_methodNamed B.named
  have hlocks := B.notSynchronized
  have htab := vx_table (x := yL_volts) B (hts (.codeWith yL_volts cL_volts 4 (some .int) [(0, 9, 12, 13)]) List.mem_cons_self)
  have hM : zM p s m c cL_volts _ wsL_volts RL D tc := ⟨hx, hb, hts, hown, hK⟩
  have hl := lv_entry ([.ref p0, .int p1, .ref po]) (n := 4) (Nat.le_of_ble_eq_true rfl)
  rw [lg_entry_eq]
  generalize (lg_sl ([.ref p0, .int p1, .ref po]) ++ List.replicate (4 - (lg_sl ([.ref p0, .int p1, .ref po])).length) Slot.unset).toArray = ls at hl ⊢
  have hl : lv_has ls 4 [(0, .ref p0), (1, .int p1), (2, .ref po)] := hl
  refine lv_aload_n hx hb dL_volts_0 rfl (lv_at hl 2 rfl) ?_
  refine lv_iconst (v := 0) hx hb dL_volts_1 (by decide) ?_
  refine lv_aload_n hx hb dL_volts_2 rfl (lv_at hl 0 rfl) ?_
  refine lv_iload_n hx hb dL_volts_3 rfl (lv_at hl 1 rfl) ?_
  refine z_xi hI (vx_runV (As := [.int p1]) (rest := [.int 0, .ref po]) ⟨hx, hb, hml, hown, hts⟩ (c_X8_volts l hnt _ _ _ _ _ _ _ p0 hk0 p1) (cwV 1 hts gL_volts_X8_volts rfl rfl rfl (by decide +kernel) ⟨Nat.le_of_ble_eq_true rfl, Nat.le_of_ble_eq_true rfl⟩) (z_preV hK hE hI [] rfl rfl (z_recv hK hI hk0 rfl rfl)) rfl rfl hl.1 rfl (lv_room (Nat.le_of_ble_eq_true rfl)) dL_volts_4 ⟨Nat.le_of_ble_eq_true rfl, Nat.le_of_ble_eq_true rfl⟩) (fun E ce q9 u H locs hw hI he1 he2 he3 => ?_) (fun v u H locs hw hI => ?_)
  · have hw : (E = "java/lang/IndexOutOfBoundsException" ∧ ¬ vp_in p1 3) ∧ u = (L, κ, g) := hw
    by_cases hE0 : E = "java/lang/IndexOutOfBoundsException"
    · subst hE0
      refine vx_catch (name := "java/lang/IndexOutOfBoundsException") hown [] ⟨0, 9, 12, 13⟩ [] htab (fun z hz => nomatch hz) (by decide) (by decide) (hts (.classLink RL 13 "java/lang/IndexOutOfBoundsException") (by decide +kernel)) (va_Nw.use rfl (hE.1 (.castable "java/lang/IndexOutOfBoundsException" "java/lang/IndexOutOfBoundsException") (by decide +kernel) rfl)) he1 he2 he3 ?_
      show W p l e _ s m _ below meth c H locs _ _ _ (F0 m 12 ls [.ref q9])
      refine lv_astore_n (lv' := [(3, .ref q9), (0, .ref p0), (1, .int p1), (2, .ref po)]) hx hb dL_volts_12 rfl hl (by decide) rfl (fun ls hl => ?_)
      refine lv_iconst (v := 1) hx hb dL_volts_13 (by decide) ?_
      refine vx_ret ?_
      exact W.iret (v := 1) hx hb hr (fun t ht hW => ⟨⟨_, u, rfl, (Or.inr ⟨rfl, hw⟩), z_endG hK hI ht hW⟩, z_F hI ht⟩) (z_locs hI) dL_volts_14
    · skip
      exact absurd hw (by simp [hE0])
  obtain ⟨L1, κ1, g1⟩ := u
  have hw : vp_in p1 3 ∧ (L1, κ1, g1) = (L, κ, g) := hw
  have hko1 : κ1 po = 29 := by (repeat (first | (cases hw; exact hko) | (obtain ⟨_, hw⟩ := hw)))
  refine lv_i2l hx hb dL_volts_7 rfl ?_
  refine lv_topl (fun w9 ew9 => ?_)
  refine z_last (g' := zup g1 po (0 : Int32).toNatClampNeg (.long w9)) hM hI hko1 rfl rfl (vp_in_c 0 1 (by decide)) ⟨(zup_self _ _ _ _).symm, _, rfl⟩ (fun b j h => zup_ne h) dL_volts_8 (fun H locs hI => ?_)
  refine lv_goto (tgt := 15) hx hb dL_volts_9 (by decide) ?_
  refine lv_iconst (v := 0) hx hb dL_volts_15 (by decide) ?_
  refine vx_ret ?_
  exact W.iret (v := 0) hx hb hr (fun t ht hW => ⟨⟨_, (L1, κ1, zup g1 po 0 (.long w9)), rfl, Or.inl ⟨rfl, v, (L1, κ1, g1), w9, hw, ew9, rfl⟩, z_endG hK hI ht hW⟩, z_F hI ht⟩) (z_locs hI) dL_volts_16

set_option maxHeartbeats 4000000 in
set_option maxRecDepth 100000 in
theorem c_L_heat (l : Launch) (hnt : l.stackTraces = false) (D : va_G) (tc : Nat → ClassId) (z0 : Nat) (L : List Nat) (κ : Nat → Nat) (g : Nat → Nat → Value) (sz : Nat) (p0 : Nat) (hk0 : κ p0 = 10) (p1 : Int32) (po : Nat) (hko : κ po = 29) (aC : Nat) (hC : g p0 1 = .ref aC) : vx_Met l yL_heat wsL_heat ({ frames := 8, cells := 1, slots := 6, locals := 141 }) (zPc D tc z0 [.ref p0, .int p1, .ref po] [] (L, κ, g) sz) (va_Qi (fun (r : Int32) (u : zS) => (r = 0 ∧ ∃ (r1 : Int32) (u1 : zS) (v9 : Int64), (zHas g aC 6 p1 ∧ u1 = (L, κ, g)) ∧ v9 = r1.toInt64 ∧ u = (u1.1, u1.2.1, zup u1.2.2 po 0 (.long v9))) ∨ (r = 1 ∧ ((("java/lang/IndexOutOfBoundsException" = "java/lang/IndexOutOfBoundsException" ∧ ¬ zHas g aC 6 p1)) ∧ u = (L, κ, g)))) (fun (u : zS) (t : State) => zB D tc (zA [] L sz) [] u t) (zA [] L sz)) (vx_X (fun u : zS => True) (fun (E : String) (u : zS) (t : State) => (False) ∧ zB D tc (zA [] L sz) [] u t) (zA [] L sz)) 1 6 (zA [] L sz) := by
  refine vx_ofWH (cc := cL_heat) (maxL := 4) (ret := (some .int)) (hh := [(0, 9, 12, 13)]) (by decide) rfl ?_
  intro p e s m args below meth c s₁ B hml hv
  obtain ⟨rfl, rfl, hK, hE, hI⟩ := hv.opn
  have hx := B.exec
  have hb := B.bytes
  have hr := B.returns
  have hts := atoms_spec (ws := wsL_heat) B.pre
  have hown : s.vm.findClass RL = some m.cls := findClass_of_methodNamed B.named
  have hlocks := B.notSynchronized
  have htab := vx_table (x := yL_heat) B (hts (.codeWith yL_heat cL_heat 4 (some .int) [(0, 9, 12, 13)]) List.mem_cons_self)
  have hM : zM p s m c cL_heat _ wsL_heat RL D tc := ⟨hx, hb, hts, hown, hK⟩
  have hl := lv_entry ([.ref p0, .int p1, .ref po]) (n := 4) (Nat.le_of_ble_eq_true rfl)
  rw [lg_entry_eq]
  generalize (lg_sl ([.ref p0, .int p1, .ref po]) ++ List.replicate (4 - (lg_sl ([.ref p0, .int p1, .ref po])).length) Slot.unset).toArray = ls at hl ⊢
  have hl : lv_has ls 4 [(0, .ref p0), (1, .int p1), (2, .ref po)] := hl
  refine lv_aload_n hx hb dL_heat_0 rfl (lv_at hl 2 rfl) ?_
  refine lv_iconst (v := 0) hx hb dL_heat_1 (by decide) ?_
  refine lv_aload_n hx hb dL_heat_2 rfl (lv_at hl 0 rfl) ?_
  refine lv_iload_n hx hb dL_heat_3 rfl (lv_at hl 1 rfl) ?_
  refine z_xi hI (vx_runV (As := [.int p1]) (rest := [.int 0, .ref po]) ⟨hx, hb, hml, hown, hts⟩ (c_X8_heat l hnt _ _ _ _ _ _ _ p0 hk0 p1 aC hC) (cwV 1 hts gL_heat_X8_heat rfl rfl rfl (by decide +kernel) ⟨Nat.le_of_ble_eq_true rfl, Nat.le_of_ble_eq_true rfl⟩) (z_preV hK hE hI [] rfl rfl (z_recv hK hI hk0 rfl rfl)) rfl rfl hl.1 rfl (lv_room (Nat.le_of_ble_eq_true rfl)) dL_heat_4 ⟨Nat.le_of_ble_eq_true rfl, Nat.le_of_ble_eq_true rfl⟩) (fun E ce q9 u H locs hw hI he1 he2 he3 => ?_) (fun v u H locs hw hI => ?_)
  · have hw : ((E = "java/lang/IndexOutOfBoundsException" ∧ ¬ zHas g aC 6 p1)) ∧ u = (L, κ, g) := hw
    by_cases hE0 : E = "java/lang/IndexOutOfBoundsException"
    · subst hE0
      refine vx_catch (name := "java/lang/IndexOutOfBoundsException") hown [] ⟨0, 9, 12, 13⟩ [] htab (fun z hz => nomatch hz) (by decide) (by decide) (hts (.classLink RL 13 "java/lang/IndexOutOfBoundsException") (by decide +kernel)) (va_Nw.use rfl (hE.1 (.castable "java/lang/IndexOutOfBoundsException" "java/lang/IndexOutOfBoundsException") (by decide +kernel) rfl)) he1 he2 he3 ?_
      show W p l e _ s m _ below meth c H locs _ _ _ (F0 m 12 ls [.ref q9])
      refine lv_astore_n (lv' := [(3, .ref q9), (0, .ref p0), (1, .int p1), (2, .ref po)]) hx hb dL_heat_12 rfl hl (by decide) rfl (fun ls hl => ?_)
      refine lv_iconst (v := 1) hx hb dL_heat_13 (by decide) ?_
      refine vx_ret ?_
      exact W.iret (v := 1) hx hb hr (fun t ht hW => ⟨⟨_, u, rfl, (Or.inr ⟨rfl, hw⟩), z_endG hK hI ht hW⟩, z_F hI ht⟩) (z_locs hI) dL_heat_14
    · skip
      exact absurd hw (by simp [hE0])
  obtain ⟨L1, κ1, g1⟩ := u
  have hw : zHas g aC 6 p1 ∧ (L1, κ1, g1) = (L, κ, g) := hw
  have hko1 : κ1 po = 29 := by (repeat (first | (cases hw; exact hko) | (obtain ⟨_, hw⟩ := hw)))
  refine lv_i2l hx hb dL_heat_7 rfl ?_
  refine lv_topl (fun w9 ew9 => ?_)
  refine z_last (g' := zup g1 po (0 : Int32).toNatClampNeg (.long w9)) hM hI hko1 rfl rfl (vp_in_c 0 1 (by decide)) ⟨(zup_self _ _ _ _).symm, _, rfl⟩ (fun b j h => zup_ne h) dL_heat_8 (fun H locs hI => ?_)
  refine lv_goto (tgt := 15) hx hb dL_heat_9 (by decide) ?_
  refine lv_iconst (v := 0) hx hb dL_heat_15 (by decide) ?_
  refine vx_ret ?_
  exact W.iret (v := 0) hx hb hr (fun t ht hW => ⟨⟨_, (L1, κ1, zup g1 po 0 (.long w9)), rfl, Or.inl ⟨rfl, v, (L1, κ1, g1), w9, hw, ew9, rfl⟩, z_endG hK hI ht hW⟩, z_F hI ht⟩) (z_locs hI) dL_heat_16

set_option maxHeartbeats 4000000 in
set_option maxRecDepth 100000 in
theorem c_L_degrees (l : Launch) (hnt : l.stackTraces = false) (D : va_G) (tc : Nat → ClassId) (z0 : Nat) (L : List Nat) (κ : Nat → Nat) (g : Nat → Nat → Value) (sz : Nat) (p0 : Nat) (hk0 : κ p0 = 10) (p1 : Int32) (po : Nat) (hko : κ po = 29) (aC : Nat) (hC : g p0 1 = .ref aC) : vx_Met l yL_degrees wsL_degrees ({ frames := 8, cells := 1, slots := 6, locals := 141 }) (zPc D tc z0 [.ref p0, .int p1, .ref po] [] (L, κ, g) sz) (va_Qi (fun (r : Int32) (u : zS) => (r = 0 ∧ ∃ (r1 : Int32) (u1 : zS) (v9 : Int64), (zHas g aC 6 p1 ∧ u1 = (L, κ, g)) ∧ v9 = r1.toInt64 ∧ u = (u1.1, u1.2.1, zup u1.2.2 po 0 (.long v9))) ∨ (r = 1 ∧ ((("java/lang/IndexOutOfBoundsException" = "java/lang/IndexOutOfBoundsException" ∧ ¬ zHas g aC 6 p1)) ∧ u = (L, κ, g)))) (fun (u : zS) (t : State) => zB D tc (zA [] L sz) [] u t) (zA [] L sz)) (vx_X (fun u : zS => True) (fun (E : String) (u : zS) (t : State) => (False) ∧ zB D tc (zA [] L sz) [] u t) (zA [] L sz)) 1 6 (zA [] L sz) := by
  refine vx_ofWH (cc := cL_degrees) (maxL := 4) (ret := (some .int)) (hh := [(0, 9, 12, 13)]) (by decide) rfl ?_
  intro p e s m args below meth c s₁ B hml hv
  obtain ⟨rfl, rfl, hK, hE, hI⟩ := hv.opn
  have hx := B.exec
  have hb := B.bytes
  have hr := B.returns
  have hts := atoms_spec (ws := wsL_degrees) B.pre
  have hown : s.vm.findClass RL = some m.cls := findClass_of_methodNamed B.named
  have hlocks := B.notSynchronized
  have htab := vx_table (x := yL_degrees) B (hts (.codeWith yL_degrees cL_degrees 4 (some .int) [(0, 9, 12, 13)]) List.mem_cons_self)
  have hM : zM p s m c cL_degrees _ wsL_degrees RL D tc := ⟨hx, hb, hts, hown, hK⟩
  have hl := lv_entry ([.ref p0, .int p1, .ref po]) (n := 4) (Nat.le_of_ble_eq_true rfl)
  rw [lg_entry_eq]
  generalize (lg_sl ([.ref p0, .int p1, .ref po]) ++ List.replicate (4 - (lg_sl ([.ref p0, .int p1, .ref po])).length) Slot.unset).toArray = ls at hl ⊢
  have hl : lv_has ls 4 [(0, .ref p0), (1, .int p1), (2, .ref po)] := hl
  refine lv_aload_n hx hb dL_degrees_0 rfl (lv_at hl 2 rfl) ?_
  refine lv_iconst (v := 0) hx hb dL_degrees_1 (by decide) ?_
  refine lv_aload_n hx hb dL_degrees_2 rfl (lv_at hl 0 rfl) ?_
  refine lv_iload_n hx hb dL_degrees_3 rfl (lv_at hl 1 rfl) ?_
  refine z_xi hI (vx_runV (As := [.int p1]) (rest := [.int 0, .ref po]) ⟨hx, hb, hml, hown, hts⟩ (c_X8_degrees l hnt _ _ _ _ _ _ _ p0 hk0 p1 aC hC) (cwV 1 hts gL_degrees_X8_degrees rfl rfl rfl (by decide +kernel) ⟨Nat.le_of_ble_eq_true rfl, Nat.le_of_ble_eq_true rfl⟩) (z_preV hK hE hI [] rfl rfl (z_recv hK hI hk0 rfl rfl)) rfl rfl hl.1 rfl (lv_room (Nat.le_of_ble_eq_true rfl)) dL_degrees_4 ⟨Nat.le_of_ble_eq_true rfl, Nat.le_of_ble_eq_true rfl⟩) (fun E ce q9 u H locs hw hI he1 he2 he3 => ?_) (fun v u H locs hw hI => ?_)
  · have hw : ((E = "java/lang/IndexOutOfBoundsException" ∧ ¬ zHas g aC 6 p1)) ∧ u = (L, κ, g) := hw
    by_cases hE0 : E = "java/lang/IndexOutOfBoundsException"
    · subst hE0
      refine vx_catch (name := "java/lang/IndexOutOfBoundsException") hown [] ⟨0, 9, 12, 13⟩ [] htab (fun z hz => nomatch hz) (by decide) (by decide) (hts (.classLink RL 13 "java/lang/IndexOutOfBoundsException") (by decide +kernel)) (va_Nw.use rfl (hE.1 (.castable "java/lang/IndexOutOfBoundsException" "java/lang/IndexOutOfBoundsException") (by decide +kernel) rfl)) he1 he2 he3 ?_
      show W p l e _ s m _ below meth c H locs _ _ _ (F0 m 12 ls [.ref q9])
      refine lv_astore_n (lv' := [(3, .ref q9), (0, .ref p0), (1, .int p1), (2, .ref po)]) hx hb dL_degrees_12 rfl hl (by decide) rfl (fun ls hl => ?_)
      refine lv_iconst (v := 1) hx hb dL_degrees_13 (by decide) ?_
      refine vx_ret ?_
      exact W.iret (v := 1) hx hb hr (fun t ht hW => ⟨⟨_, u, rfl, (Or.inr ⟨rfl, hw⟩), z_endG hK hI ht hW⟩, z_F hI ht⟩) (z_locs hI) dL_degrees_14
    · skip
      exact absurd hw (by simp [hE0])
  obtain ⟨L1, κ1, g1⟩ := u
  have hw : zHas g aC 6 p1 ∧ (L1, κ1, g1) = (L, κ, g) := hw
  have hko1 : κ1 po = 29 := by (repeat (first | (cases hw; exact hko) | (obtain ⟨_, hw⟩ := hw)))
  refine lv_i2l hx hb dL_degrees_7 rfl ?_
  refine lv_topl (fun w9 ew9 => ?_)
  refine z_last (g' := zup g1 po (0 : Int32).toNatClampNeg (.long w9)) hM hI hko1 rfl rfl (vp_in_c 0 1 (by decide)) ⟨(zup_self _ _ _ _).symm, _, rfl⟩ (fun b j h => zup_ne h) dL_degrees_8 (fun H locs hI => ?_)
  refine lv_goto (tgt := 15) hx hb dL_degrees_9 (by decide) ?_
  refine lv_iconst (v := 0) hx hb dL_degrees_15 (by decide) ?_
  refine vx_ret ?_
  exact W.iret (v := 0) hx hb hr (fun t ht hW => ⟨⟨_, (L1, κ1, zup g1 po 0 (.long w9)), rfl, Or.inl ⟨rfl, v, (L1, κ1, g1), w9, hw, ew9, rfl⟩, z_endG hK hI ht hW⟩, z_F hI ht⟩) (z_locs hI) dL_degrees_16

set_option maxHeartbeats 4000000 in
set_option maxRecDepth 100000 in
theorem c_L_sensor (l : Launch) (hnt : l.stackTraces = false) (D : va_G) (tc : Nat → ClassId) (z0 : Nat) (L : List Nat) (κ : Nat → Nat) (g : Nat → Nat → Value) (sz : Nat) (p0 : Nat) (hk0 : κ p0 = 10) (p1 : Int32) (po : Nat) (hko : κ po = 29) (aC : Nat) (hC : g p0 1 = .ref aC) : vx_Met l yL_sensor wsL_sensor ({ frames := 8, cells := 2, slots := 12, locals := 142 }) (zPc D tc z0 [.ref p0, .int p1, .ref po] [] (L, κ, g) sz) (va_Qi (fun (r : Int32) (u : zS) => (r = 0 ∧ ∃ (r1 : Int32) (u1 : zS) (v9 : Int64), (zHas g aC 6 p1 ∧ u1 = (L, κ, g)) ∧ v9 = r1.toInt64 ∧ u = (u1.1, u1.2.1, zup u1.2.2 po 0 (.long v9))) ∨ (r = 1 ∧ ((("java/lang/IndexOutOfBoundsException" = "java/lang/IndexOutOfBoundsException" ∧ ¬ zHas g aC 6 p1) ∨ ("java/lang/IndexOutOfBoundsException" = "java/util/NoSuchElementException")) ∧ u = (L, κ, g))) ∨ (r = 2 ∧ ((("java/util/NoSuchElementException" = "java/lang/IndexOutOfBoundsException" ∧ ¬ zHas g aC 6 p1) ∨ ("java/util/NoSuchElementException" = "java/util/NoSuchElementException")) ∧ u = (L, κ, g)))) (fun (u : zS) (t : State) => zB D tc (zA [] L sz) [] u t) (zA [] L sz)) (vx_X (fun u : zS => True) (fun (E : String) (u : zS) (t : State) => (False) ∧ zB D tc (zA [] L sz) [] u t) (zA [] L sz)) 2 12 (zA [] L sz) := by
  refine vx_ofWH (cc := cL_sensor) (maxL := 4) (ret := (some .int)) (hh := [(0, 9, 12, 13), (0, 9, 15, 78)]) (by decide) rfl ?_
  intro p e s m args below meth c s₁ B hml hv
  obtain ⟨rfl, rfl, hK, hE, hI⟩ := hv.opn
  have hx := B.exec
  have hb := B.bytes
  have hr := B.returns
  have hts := atoms_spec (ws := wsL_sensor) B.pre
  have hown : s.vm.findClass RL = some m.cls := findClass_of_methodNamed B.named
  have hlocks := B.notSynchronized
  have htab := vx_table (x := yL_sensor) B (hts (.codeWith yL_sensor cL_sensor 4 (some .int) [(0, 9, 12, 13), (0, 9, 15, 78)]) List.mem_cons_self)
  have hM : zM p s m c cL_sensor _ wsL_sensor RL D tc := ⟨hx, hb, hts, hown, hK⟩
  have hl := lv_entry ([.ref p0, .int p1, .ref po]) (n := 4) (Nat.le_of_ble_eq_true rfl)
  rw [lg_entry_eq]
  generalize (lg_sl ([.ref p0, .int p1, .ref po]) ++ List.replicate (4 - (lg_sl ([.ref p0, .int p1, .ref po])).length) Slot.unset).toArray = ls at hl ⊢
  have hl : lv_has ls 4 [(0, .ref p0), (1, .int p1), (2, .ref po)] := hl
  refine lv_aload_n hx hb dL_sensor_0 rfl (lv_at hl 2 rfl) ?_
  refine lv_iconst (v := 0) hx hb dL_sensor_1 (by decide) ?_
  refine lv_aload_n hx hb dL_sensor_2 rfl (lv_at hl 0 rfl) ?_
  refine lv_iload_n hx hb dL_sensor_3 rfl (lv_at hl 1 rfl) ?_
  refine z_xi hI (vx_runV (As := [.int p1]) (rest := [.int 0, .ref po]) ⟨hx, hb, hml, hown, hts⟩ (cN_sensor l hnt _ _ _ _ _ _ _ p0 hk0 p1 aC hC) (cwV 1 hts gL_sensor_X8_sensor rfl rfl rfl (by decide +kernel) ⟨Nat.le_of_ble_eq_true rfl, Nat.le_of_ble_eq_true rfl⟩) (z_preV hK hE hI [] rfl rfl (z_recv hK hI hk0 rfl rfl)) rfl rfl hl.1 rfl (lv_room (Nat.le_of_ble_eq_true rfl)) dL_sensor_4 ⟨Nat.le_of_ble_eq_true rfl, Nat.le_of_ble_eq_true rfl⟩) (fun E ce q9 u H locs hw hI he1 he2 he3 => ?_) (fun v u H locs hw hI => ?_)
  · have hw : ((E = "java/lang/IndexOutOfBoundsException" ∧ ¬ zHas g aC 6 p1) ∨ (E = "java/util/NoSuchElementException")) ∧ u = (L, κ, g) := hw
    by_cases hE0 : E = "java/lang/IndexOutOfBoundsException"
    · subst hE0
      refine vx_catch (name := "java/lang/IndexOutOfBoundsException") hown [] ⟨0, 9, 12, 13⟩ [⟨0, 9, 15, 78⟩] htab (fun z hz => nomatch hz) (by decide) (by decide) (hts (.classLink RL 13 "java/lang/IndexOutOfBoundsException") (by decide +kernel)) (va_Nw.use rfl (hE.1 (.castable "java/lang/IndexOutOfBoundsException" "java/lang/IndexOutOfBoundsException") (by decide +kernel) rfl)) he1 he2 he3 ?_
      show W p l e _ s m _ below meth c H locs _ _ _ (F0 m 12 ls [.ref q9])
      refine lv_astore_n (lv' := [(3, .ref q9), (0, .ref p0), (1, .int p1), (2, .ref po)]) hx hb dL_sensor_12 rfl hl (by decide) rfl (fun ls hl => ?_)
      refine lv_iconst (v := 1) hx hb dL_sensor_13 (by decide) ?_
      refine vx_ret ?_
      exact W.iret (v := 1) hx hb hr (fun t ht hW => ⟨⟨_, u, rfl, (Or.inr (Or.inl ⟨rfl, hw⟩)), z_endG hK hI ht hW⟩, z_F hI ht⟩) (z_locs hI) dL_sensor_14
    · skip
      by_cases hE1 : E = "java/util/NoSuchElementException"
      · subst hE1
        refine vx_catch (name := "java/util/NoSuchElementException") hown [⟨0, 9, 12, 13⟩] ⟨0, 9, 15, 78⟩ [] htab (List.forall_mem_cons.mpr ⟨Or.inr ⟨by decide, "java/lang/IndexOutOfBoundsException", hts (.classLink RL 13 "java/lang/IndexOutOfBoundsException") (by decide +kernel), hE.2.2.2.1 ("java/util/NoSuchElementException", "java/lang/IndexOutOfBoundsException") (by decide +kernel)⟩, (fun _ h => absurd h List.not_mem_nil)⟩) (by decide) (by decide) (hts (.classLink RL 78 "java/util/NoSuchElementException") (by decide +kernel)) (va_Nw.use rfl (hE.1 (.castable "java/util/NoSuchElementException" "java/util/NoSuchElementException") (by decide +kernel) rfl)) he1 he2 he3 ?_
        show W p l e _ s m _ below meth c H locs _ _ _ (F0 m 15 ls [.ref q9])
        refine lv_astore_n (lv' := [(3, .ref q9), (0, .ref p0), (1, .int p1), (2, .ref po)]) hx hb dL_sensor_15 rfl hl (by decide) rfl (fun ls hl => ?_)
        refine lv_iconst (v := 2) hx hb dL_sensor_16 (by decide) ?_
        refine vx_ret ?_
        exact W.iret (v := 2) hx hb hr (fun t ht hW => ⟨⟨_, u, rfl, (Or.inr (Or.inr ⟨rfl, hw⟩)), z_endG hK hI ht hW⟩, z_F hI ht⟩) (z_locs hI) dL_sensor_17
      · skip
        exact absurd hw (by simp [hE0, hE1])
  obtain ⟨L1, κ1, g1⟩ := u
  have hw : zHas g aC 6 p1 ∧ (L1, κ1, g1) = (L, κ, g) := hw
  have hko1 : κ1 po = 29 := by (repeat (first | (cases hw; exact hko) | (obtain ⟨_, hw⟩ := hw)))
  refine lv_i2l hx hb dL_sensor_7 rfl ?_
  refine lv_topl (fun w9 ew9 => ?_)
  refine z_last (g' := zup g1 po (0 : Int32).toNatClampNeg (.long w9)) hM hI hko1 rfl rfl (vp_in_c 0 1 (by decide)) ⟨(zup_self _ _ _ _).symm, _, rfl⟩ (fun b j h => zup_ne h) dL_sensor_8 (fun H locs hI => ?_)
  refine lv_goto (tgt := 18) hx hb dL_sensor_9 (by decide) ?_
  refine lv_iconst (v := 0) hx hb dL_sensor_18 (by decide) ?_
  refine vx_ret ?_
  exact W.iret (v := 0) hx hb hr (fun t ht hW => ⟨⟨_, (L1, κ1, zup g1 po 0 (.long w9)), rfl, Or.inl ⟨rfl, v, (L1, κ1, g1), w9, hw, ew9, rfl⟩, z_endG hK hI ht hW⟩, z_F hI ht⟩) (z_locs hI) dL_sensor_19

set_option maxHeartbeats 4000000 in
set_option maxRecDepth 100000 in
theorem c_L_lose (l : Launch) (hnt : l.stackTraces = false) (D : va_G) (tc : Nat → ClassId) (z0 : Nat) (L : List Nat) (κ : Nat → Nat) (g : Nat → Nat → Value) (sz : Nat) (p0 : Nat) (hk0 : κ p0 = 10) (p1 : Int32) (p2 : Int32) (hz2 : p2 = 0 ∨ p2 = 1) (po : Nat) (hko : κ po = 29) (aC : Nat) (hC : g p0 1 = .ref aC) : vx_Met l yL_lose wsL_lose ({ frames := 8, cells := 1, slots := 6, locals := 144 }) (zPc D tc z0 [.ref p0, .int p1, .int p2, .ref po] [] (L, κ, g) sz) (va_Qi (fun (r : Int32) (u : zS) => (r = 0 ∧ ∃ (r1 : Int32) (u1 : zS) (v9 : Int64), (∃ a : Nat, κ a = 5 ∧ vp_in p1 6 ∧ g aC p1.toNatClampNeg = .ref a ∧ g a 17 = .int r1 ∧ (r1 = 0 ∨ r1 = 1) ∧ u1 = (L, κ, zup g a 17 (.int p2))) ∧ v9 = (if r1 = 0 then 0 else 1) ∧ u = (u1.1, u1.2.1, zup u1.2.2 po 0 (.long v9))) ∨ (r = 1 ∧ ((("java/lang/IndexOutOfBoundsException" = "java/lang/IndexOutOfBoundsException" ∧ ¬ zHas g aC 6 p1)) ∧ u = (L, κ, g)))) (fun (u : zS) (t : State) => zB D tc (zA [] L sz) [] u t) (zA [] L sz)) (vx_X (fun u : zS => True) (fun (E : String) (u : zS) (t : State) => (False) ∧ zB D tc (zA [] L sz) [] u t) (zA [] L sz)) 1 6 (zA [] L sz) := by
  refine vx_ofWH (cc := cL_lose) (maxL := 5) (ret := (some .int)) (hh := [(0, 17, 20, 13)]) (by decide) rfl ?_
  intro p e s m args below meth c s₁ B hml hv
  obtain ⟨rfl, rfl, hK, hE, hI⟩ := hv.opn
  have hx := B.exec
  have hb := B.bytes
  have hr := B.returns
  have hts := atoms_spec (ws := wsL_lose) B.pre
  have hown : s.vm.findClass RL = some m.cls := findClass_of_methodNamed B.named
  have hlocks := B.notSynchronized
  have htab := vx_table (x := yL_lose) B (hts (.codeWith yL_lose cL_lose 5 (some .int) [(0, 17, 20, 13)]) List.mem_cons_self)
  have hM : zM p s m c cL_lose _ wsL_lose RL D tc := ⟨hx, hb, hts, hown, hK⟩
  have hl := lv_entry ([.ref p0, .int p1, .int p2, .ref po]) (n := 5) (Nat.le_of_ble_eq_true rfl)
  rw [lg_entry_eq]
  generalize (lg_sl ([.ref p0, .int p1, .int p2, .ref po]) ++ List.replicate (5 - (lg_sl ([.ref p0, .int p1, .int p2, .ref po])).length) Slot.unset).toArray = ls at hl ⊢
  have hl : lv_has ls 5 [(0, .ref p0), (1, .int p1), (2, .int p2), (3, .ref po)] := hl
  refine lv_aload_n hx hb dL_lose_0 rfl (lv_at hl 3 rfl) ?_
  refine lv_iconst (v := 0) hx hb dL_lose_1 (by decide) ?_
  refine lv_aload_n hx hb dL_lose_2 rfl (lv_at hl 0 rfl) ?_
  refine lv_iload_n hx hb dL_lose_3 rfl (lv_at hl 1 rfl) ?_
  refine lv_iload_n hx hb dL_lose_4 rfl (lv_at hl 2 rfl) ?_
  refine z_xi hI (vx_runV (As := [.int p1, .int p2]) (rest := [.int 0, .ref po]) ⟨hx, hb, hml, hown, hts⟩ (c_X8_lose l hnt _ _ _ _ _ _ _ p0 hk0 p1 p2 hz2 aC hC) (cwV 2 hts gL_lose_X8_lose rfl rfl rfl (by decide +kernel) ⟨Nat.le_of_ble_eq_true rfl, Nat.le_of_ble_eq_true rfl⟩) (z_preV hK hE hI [] rfl rfl (z_recv hK hI hk0 rfl rfl)) rfl rfl hl.1 rfl (lv_room (Nat.le_of_ble_eq_true rfl)) dL_lose_5 ⟨Nat.le_of_ble_eq_true rfl, Nat.le_of_ble_eq_true rfl⟩) (fun E ce q9 u H locs hw hI he1 he2 he3 => ?_) (fun v u H locs hw hI => ?_)
  · have hw : ((E = "java/lang/IndexOutOfBoundsException" ∧ ¬ zHas g aC 6 p1)) ∧ u = (L, κ, g) := hw
    by_cases hE0 : E = "java/lang/IndexOutOfBoundsException"
    · subst hE0
      refine vx_catch (name := "java/lang/IndexOutOfBoundsException") hown [] ⟨0, 17, 20, 13⟩ [] htab (fun z hz => nomatch hz) (by decide) (by decide) (hts (.classLink RL 13 "java/lang/IndexOutOfBoundsException") (by decide +kernel)) (va_Nw.use rfl (hE.1 (.castable "java/lang/IndexOutOfBoundsException" "java/lang/IndexOutOfBoundsException") (by decide +kernel) rfl)) he1 he2 he3 ?_
      show W p l e _ s m _ below meth c H locs _ _ _ (F0 m 20 ls [.ref q9])
      refine lv_astore (lv' := [(4, .ref q9), (0, .ref p0), (1, .int p1), (2, .int p2), (3, .ref po)]) hx hb dL_lose_20 hl (by decide) rfl (fun ls hl => ?_)
      refine lv_iconst (v := 1) hx hb dL_lose_22 (by decide) ?_
      refine vx_ret ?_
      exact W.iret (v := 1) hx hb hr (fun t ht hW => ⟨⟨_, u, rfl, (Or.inr ⟨rfl, hw⟩), z_endG hK hI ht hW⟩, z_F hI ht⟩) (z_locs hI) dL_lose_23
    · skip
      exact absurd hw (by simp [hE0])
  obtain ⟨L1, κ1, g1⟩ := u
  have hw : ∃ a : Nat, κ a = 5 ∧ vp_in p1 6 ∧ g aC p1.toNatClampNeg = .ref a ∧ g a 17 = .int v ∧ (v = 0 ∨ v = 1) ∧ (L1, κ1, g1) = (L, κ, zup g a 17 (.int p2)) := hw
  have hko1 : κ1 po = 29 := by (repeat (first | (cases hw; exact hko) | (obtain ⟨_, hw⟩ := hw)))
  refine lv_if_eq (tgt := 15) hx hb dL_lose_8 (by decide) (fun cz => ?_) (fun cz => ?_)
  · refine lv_lconst (v := 0) hx hb dL_lose_15 (by decide) ?_
    refine z_last (g' := zup g1 po (0 : Int32).toNatClampNeg (.long 0)) hM hI hko1 rfl rfl (vp_in_c 0 1 (by decide)) ⟨(zup_self _ _ _ _).symm, _, rfl⟩ (fun b j h => zup_ne h) dL_lose_16 (fun H locs hI => ?_)
    refine lv_goto (tgt := 24) hx hb dL_lose_17 (by decide) ?_
    refine lv_iconst (v := 0) hx hb dL_lose_24 (by decide) ?_
    refine vx_ret ?_
    exact W.iret (v := 0) hx hb hr (fun t ht hW => ⟨⟨_, (L1, κ1, zup g1 po 0 (.long 0)), rfl, Or.inl ⟨rfl, v, (L1, κ1, g1), 0, hw, (if_pos cz).symm, rfl⟩, z_endG hK hI ht hW⟩, z_F hI ht⟩) (z_locs hI) dL_lose_25
  · refine lv_lconst (v := 1) hx hb dL_lose_11 (by decide) ?_
    refine lv_goto (tgt := 16) hx hb dL_lose_12 (by decide) ?_
    refine z_last (g' := zup g1 po (0 : Int32).toNatClampNeg (.long 1)) hM hI hko1 rfl rfl (vp_in_c 0 1 (by decide)) ⟨(zup_self _ _ _ _).symm, _, rfl⟩ (fun b j h => zup_ne h) dL_lose_16 (fun H locs hI => ?_)
    refine lv_goto (tgt := 24) hx hb dL_lose_17 (by decide) ?_
    refine lv_iconst (v := 0) hx hb dL_lose_24 (by decide) ?_
    refine vx_ret ?_
    exact W.iret (v := 0) hx hb hr (fun t ht hW => ⟨⟨_, (L1, κ1, zup g1 po 0 (.long 1)), rfl, Or.inl ⟨rfl, v, (L1, κ1, g1), 1, hw, (if_neg cz).symm, rfl⟩, z_endG hK hI ht hW⟩, z_F hI ht⟩) (z_locs hI) dL_lose_25

set_option maxHeartbeats 4000000 in
set_option maxRecDepth 100000 in
theorem c_L_isTripped (l : Launch) (hnt : l.stackTraces = false) (D : va_G) (tc : Nat → ClassId) (z0 : Nat) (L : List Nat) (κ : Nat → Nat) (g : Nat → Nat → Value) (sz : Nat) (p0 : Nat) (hk0 : κ p0 = 10) (p1 : Int32) (po : Nat) (hko : κ po = 29) (aC : Nat) (hC : g p0 1 = .ref aC) : vx_Met l yL_isTripped wsL_isTripped ({ frames := 8, cells := 1, slots := 6, locals := 141 }) (zPc D tc z0 [.ref p0, .int p1, .ref po] [] (L, κ, g) sz) (va_Qi (fun (r : Int32) (u : zS) => (r = 0 ∧ ∃ (r1 : Int32) (u1 : zS) (v9 : Int64), (zHas g aC 6 p1 ∧ u1 = (L, κ, g)) ∧ v9 = (if r1 = 0 then 0 else 1) ∧ u = (u1.1, u1.2.1, zup u1.2.2 po 0 (.long v9))) ∨ (r = 1 ∧ ((("java/lang/IndexOutOfBoundsException" = "java/lang/IndexOutOfBoundsException" ∧ ¬ zHas g aC 6 p1)) ∧ u = (L, κ, g)))) (fun (u : zS) (t : State) => zB D tc (zA [] L sz) [] u t) (zA [] L sz)) (vx_X (fun u : zS => True) (fun (E : String) (u : zS) (t : State) => (False) ∧ zB D tc (zA [] L sz) [] u t) (zA [] L sz)) 1 6 (zA [] L sz) := by
  refine vx_ofWH (cc := cL_isTripped) (maxL := 4) (ret := (some .int)) (hh := [(0, 16, 19, 13)]) (by decide) rfl ?_
  intro p e s m args below meth c s₁ B hml hv
  obtain ⟨rfl, rfl, hK, hE, hI⟩ := hv.opn
  have hx := B.exec
  have hb := B.bytes
  have hr := B.returns
  have hts := atoms_spec (ws := wsL_isTripped) B.pre
  have hown : s.vm.findClass RL = some m.cls := findClass_of_methodNamed B.named
  have hlocks := B.notSynchronized
  have htab := vx_table (x := yL_isTripped) B (hts (.codeWith yL_isTripped cL_isTripped 4 (some .int) [(0, 16, 19, 13)]) List.mem_cons_self)
  have hM : zM p s m c cL_isTripped _ wsL_isTripped RL D tc := ⟨hx, hb, hts, hown, hK⟩
  have hl := lv_entry ([.ref p0, .int p1, .ref po]) (n := 4) (Nat.le_of_ble_eq_true rfl)
  rw [lg_entry_eq]
  generalize (lg_sl ([.ref p0, .int p1, .ref po]) ++ List.replicate (4 - (lg_sl ([.ref p0, .int p1, .ref po])).length) Slot.unset).toArray = ls at hl ⊢
  have hl : lv_has ls 4 [(0, .ref p0), (1, .int p1), (2, .ref po)] := hl
  refine lv_aload_n hx hb dL_isTripped_0 rfl (lv_at hl 2 rfl) ?_
  refine lv_iconst (v := 0) hx hb dL_isTripped_1 (by decide) ?_
  refine lv_aload_n hx hb dL_isTripped_2 rfl (lv_at hl 0 rfl) ?_
  refine lv_iload_n hx hb dL_isTripped_3 rfl (lv_at hl 1 rfl) ?_
  refine z_xi hI (vx_runV (As := [.int p1]) (rest := [.int 0, .ref po]) ⟨hx, hb, hml, hown, hts⟩ (c_X8_isTripped l hnt _ _ _ _ _ _ _ p0 hk0 p1 aC hC) (cwV 1 hts gL_isTripped_X8_isTripped rfl rfl rfl (by decide +kernel) ⟨Nat.le_of_ble_eq_true rfl, Nat.le_of_ble_eq_true rfl⟩) (z_preV hK hE hI [] rfl rfl (z_recv hK hI hk0 rfl rfl)) rfl rfl hl.1 rfl (lv_room (Nat.le_of_ble_eq_true rfl)) dL_isTripped_4 ⟨Nat.le_of_ble_eq_true rfl, Nat.le_of_ble_eq_true rfl⟩) (fun E ce q9 u H locs hw hI he1 he2 he3 => ?_) (fun v u H locs hw hI => ?_)
  · have hw : ((E = "java/lang/IndexOutOfBoundsException" ∧ ¬ zHas g aC 6 p1)) ∧ u = (L, κ, g) := hw
    by_cases hE0 : E = "java/lang/IndexOutOfBoundsException"
    · subst hE0
      refine vx_catch (name := "java/lang/IndexOutOfBoundsException") hown [] ⟨0, 16, 19, 13⟩ [] htab (fun z hz => nomatch hz) (by decide) (by decide) (hts (.classLink RL 13 "java/lang/IndexOutOfBoundsException") (by decide +kernel)) (va_Nw.use rfl (hE.1 (.castable "java/lang/IndexOutOfBoundsException" "java/lang/IndexOutOfBoundsException") (by decide +kernel) rfl)) he1 he2 he3 ?_
      show W p l e _ s m _ below meth c H locs _ _ _ (F0 m 19 ls [.ref q9])
      refine lv_astore_n (lv' := [(3, .ref q9), (0, .ref p0), (1, .int p1), (2, .ref po)]) hx hb dL_isTripped_19 rfl hl (by decide) rfl (fun ls hl => ?_)
      refine lv_iconst (v := 1) hx hb dL_isTripped_20 (by decide) ?_
      refine vx_ret ?_
      exact W.iret (v := 1) hx hb hr (fun t ht hW => ⟨⟨_, u, rfl, (Or.inr ⟨rfl, hw⟩), z_endG hK hI ht hW⟩, z_F hI ht⟩) (z_locs hI) dL_isTripped_21
    · skip
      exact absurd hw (by simp [hE0])
  obtain ⟨L1, κ1, g1⟩ := u
  have hw : zHas g aC 6 p1 ∧ (L1, κ1, g1) = (L, κ, g) := hw
  have hko1 : κ1 po = 29 := by (repeat (first | (cases hw; exact hko) | (obtain ⟨_, hw⟩ := hw)))
  refine lv_if_eq (tgt := 14) hx hb dL_isTripped_7 (by decide) (fun cz => ?_) (fun cz => ?_)
  · refine lv_lconst (v := 0) hx hb dL_isTripped_14 (by decide) ?_
    refine z_last (g' := zup g1 po (0 : Int32).toNatClampNeg (.long 0)) hM hI hko1 rfl rfl (vp_in_c 0 1 (by decide)) ⟨(zup_self _ _ _ _).symm, _, rfl⟩ (fun b j h => zup_ne h) dL_isTripped_15 (fun H locs hI => ?_)
    refine lv_goto (tgt := 22) hx hb dL_isTripped_16 (by decide) ?_
    refine lv_iconst (v := 0) hx hb dL_isTripped_22 (by decide) ?_
    refine vx_ret ?_
    exact W.iret (v := 0) hx hb hr (fun t ht hW => ⟨⟨_, (L1, κ1, zup g1 po 0 (.long 0)), rfl, Or.inl ⟨rfl, v, (L1, κ1, g1), 0, hw, (if_pos cz).symm, rfl⟩, z_endG hK hI ht hW⟩, z_F hI ht⟩) (z_locs hI) dL_isTripped_23
  · refine lv_lconst (v := 1) hx hb dL_isTripped_10 (by decide) ?_
    refine lv_goto (tgt := 15) hx hb dL_isTripped_11 (by decide) ?_
    refine z_last (g' := zup g1 po (0 : Int32).toNatClampNeg (.long 1)) hM hI hko1 rfl rfl (vp_in_c 0 1 (by decide)) ⟨(zup_self _ _ _ _).symm, _, rfl⟩ (fun b j h => zup_ne h) dL_isTripped_15 (fun H locs hI => ?_)
    refine lv_goto (tgt := 22) hx hb dL_isTripped_16 (by decide) ?_
    refine lv_iconst (v := 0) hx hb dL_isTripped_22 (by decide) ?_
    refine vx_ret ?_
    exact W.iret (v := 0) hx hb hr (fun t ht hW => ⟨⟨_, (L1, κ1, zup g1 po 0 (.long 1)), rfl, Or.inl ⟨rfl, v, (L1, κ1, g1), 1, hw, (if_neg cz).symm, rfl⟩, z_endG hK hI ht hW⟩, z_F hI ht⟩) (z_locs hI) dL_isTripped_23

set_option maxHeartbeats 4000000 in
set_option maxRecDepth 100000 in
theorem c_L_heatUp (l : Launch) (hnt : l.stackTraces = false) (D : va_G) (tc : Nat → ClassId) (z0 : Nat) (L : List Nat) (κ : Nat → Nat) (g : Nat → Nat → Value) (sz : Nat) (p0 : Nat) (hk0 : κ p0 = 10) (p1 : Int32) (p2 : Int32) (po : Nat) (hko : κ po = 29) (aC : Nat) (hC : g p0 1 = .ref aC) : vx_Met l yL_heatUp wsL_heatUp ({ frames := 8, cells := 2, slots := 12, locals := 143 }) (zPc D tc z0 [.ref p0, .int p1, .int p2, .ref po] [] (L, κ, g) sz) (va_Qi (fun (r : Int32) (u : zS) => (r = 0 ∧ ∃ (r1 : Int32) (u1 : zS) (v9 : Int64), (zHas g aC 6 p1 ∧ u1 = (L, κ, g)) ∧ v9 = r1.toInt64 ∧ u = (u1.1, u1.2.1, zup u1.2.2 po 0 (.long v9))) ∨ (r = 1 ∧ ((("java/lang/IndexOutOfBoundsException" = "java/lang/IndexOutOfBoundsException" ∧ ¬ zHas g aC 6 p1) ∨ ("java/lang/IndexOutOfBoundsException" = "java/lang/IllegalArgumentException") ∨ ("java/lang/IndexOutOfBoundsException" = "java/lang/IllegalStateException")) ∧ u = (L, κ, g))) ∨ (r = 2 ∧ ((("java/lang/IllegalArgumentException" = "java/lang/IndexOutOfBoundsException" ∧ ¬ zHas g aC 6 p1) ∨ ("java/lang/IllegalArgumentException" = "java/lang/IllegalArgumentException") ∨ ("java/lang/IllegalArgumentException" = "java/lang/IllegalStateException")) ∧ u = (L, κ, g))) ∨ (r = 3 ∧ ((("java/lang/IllegalStateException" = "java/lang/IndexOutOfBoundsException" ∧ ¬ zHas g aC 6 p1) ∨ ("java/lang/IllegalStateException" = "java/lang/IllegalArgumentException") ∨ ("java/lang/IllegalStateException" = "java/lang/IllegalStateException")) ∧ u = (L, κ, g)))) (fun (u : zS) (t : State) => zB D tc (zA [] L sz) [] u t) (zA [] L sz)) (vx_X (fun u : zS => True) (fun (E : String) (u : zS) (t : State) => (False) ∧ zB D tc (zA [] L sz) [] u t) (zA [] L sz)) 2 12 (zA [] L sz) := by
  refine vx_ofWH (cc := cL_heatUp) (maxL := 5) (ret := (some .int)) (hh := [(0, 10, 13, 13), (0, 10, 17, 15), (0, 10, 21, 17)]) (by decide) rfl ?_
  intro p e s m args below meth c s₁ B hml hv
  obtain ⟨rfl, rfl, hK, hE, hI⟩ := hv.opn
  have hx := B.exec
  have hb := B.bytes
  have hr := B.returns
  have hts := atoms_spec (ws := wsL_heatUp) B.pre
  have hown : s.vm.findClass RL = some m.cls := findClass_of_methodNamed B.named
  have hlocks := B.notSynchronized
  have htab := vx_table (x := yL_heatUp) B (hts (.codeWith yL_heatUp cL_heatUp 5 (some .int) [(0, 10, 13, 13), (0, 10, 17, 15), (0, 10, 21, 17)]) List.mem_cons_self)
  have hM : zM p s m c cL_heatUp _ wsL_heatUp RL D tc := ⟨hx, hb, hts, hown, hK⟩
  have hl := lv_entry ([.ref p0, .int p1, .int p2, .ref po]) (n := 5) (Nat.le_of_ble_eq_true rfl)
  rw [lg_entry_eq]
  generalize (lg_sl ([.ref p0, .int p1, .int p2, .ref po]) ++ List.replicate (5 - (lg_sl ([.ref p0, .int p1, .int p2, .ref po])).length) Slot.unset).toArray = ls at hl ⊢
  have hl : lv_has ls 5 [(0, .ref p0), (1, .int p1), (2, .int p2), (3, .ref po)] := hl
  refine lv_aload_n hx hb dL_heatUp_0 rfl (lv_at hl 3 rfl) ?_
  refine lv_iconst (v := 0) hx hb dL_heatUp_1 (by decide) ?_
  refine lv_aload_n hx hb dL_heatUp_2 rfl (lv_at hl 0 rfl) ?_
  refine lv_iload_n hx hb dL_heatUp_3 rfl (lv_at hl 1 rfl) ?_
  refine lv_iload_n hx hb dL_heatUp_4 rfl (lv_at hl 2 rfl) ?_
  refine z_xi hI (vx_runV (As := [.int p1, .int p2]) (rest := [.int 0, .ref po]) ⟨hx, hb, hml, hown, hts⟩ (c_X8_heatUp l hnt _ _ _ _ _ _ _ p0 hk0 p1 p2 aC hC) (cwV 2 hts gL_heatUp_X8_heatUp rfl rfl rfl (by decide +kernel) ⟨Nat.le_of_ble_eq_true rfl, Nat.le_of_ble_eq_true rfl⟩) (z_preV hK hE hI [] rfl rfl (z_recv hK hI hk0 rfl rfl)) rfl rfl hl.1 rfl (lv_room (Nat.le_of_ble_eq_true rfl)) dL_heatUp_5 ⟨Nat.le_of_ble_eq_true rfl, Nat.le_of_ble_eq_true rfl⟩) (fun E ce q9 u H locs hw hI he1 he2 he3 => ?_) (fun v u H locs hw hI => ?_)
  · have hw : ((E = "java/lang/IndexOutOfBoundsException" ∧ ¬ zHas g aC 6 p1) ∨ (E = "java/lang/IllegalArgumentException") ∨ (E = "java/lang/IllegalStateException")) ∧ u = (L, κ, g) := hw
    by_cases hE0 : E = "java/lang/IndexOutOfBoundsException"
    · subst hE0
      refine vx_catch (name := "java/lang/IndexOutOfBoundsException") hown [] ⟨0, 10, 13, 13⟩ [⟨0, 10, 17, 15⟩, ⟨0, 10, 21, 17⟩] htab (fun z hz => nomatch hz) (by decide) (by decide) (hts (.classLink RL 13 "java/lang/IndexOutOfBoundsException") (by decide +kernel)) (va_Nw.use rfl (hE.1 (.castable "java/lang/IndexOutOfBoundsException" "java/lang/IndexOutOfBoundsException") (by decide +kernel) rfl)) he1 he2 he3 ?_
      show W p l e _ s m _ below meth c H locs _ _ _ (F0 m 13 ls [.ref q9])
      refine lv_astore (lv' := [(4, .ref q9), (0, .ref p0), (1, .int p1), (2, .int p2), (3, .ref po)]) hx hb dL_heatUp_13 hl (by decide) rfl (fun ls hl => ?_)
      refine lv_iconst (v := 1) hx hb dL_heatUp_15 (by decide) ?_
      refine vx_ret ?_
      exact W.iret (v := 1) hx hb hr (fun t ht hW => ⟨⟨_, u, rfl, (Or.inr (Or.inl ⟨rfl, hw⟩)), z_endG hK hI ht hW⟩, z_F hI ht⟩) (z_locs hI) dL_heatUp_16
    · skip
      by_cases hE1 : E = "java/lang/IllegalArgumentException"
      · subst hE1
        refine vx_catch (name := "java/lang/IllegalArgumentException") hown [⟨0, 10, 13, 13⟩] ⟨0, 10, 17, 15⟩ [⟨0, 10, 21, 17⟩] htab (List.forall_mem_cons.mpr ⟨Or.inr ⟨by decide, "java/lang/IndexOutOfBoundsException", hts (.classLink RL 13 "java/lang/IndexOutOfBoundsException") (by decide +kernel), hE.2.2.2.1 ("java/lang/IllegalArgumentException", "java/lang/IndexOutOfBoundsException") (by decide +kernel)⟩, (fun _ h => absurd h List.not_mem_nil)⟩) (by decide) (by decide) (hts (.classLink RL 15 "java/lang/IllegalArgumentException") (by decide +kernel)) (va_Nw.use rfl (hE.1 (.castable "java/lang/IllegalArgumentException" "java/lang/IllegalArgumentException") (by decide +kernel) rfl)) he1 he2 he3 ?_
        show W p l e _ s m _ below meth c H locs _ _ _ (F0 m 17 ls [.ref q9])
        refine lv_astore (lv' := [(4, .ref q9), (0, .ref p0), (1, .int p1), (2, .int p2), (3, .ref po)]) hx hb dL_heatUp_17 hl (by decide) rfl (fun ls hl => ?_)
        refine lv_iconst (v := 2) hx hb dL_heatUp_19 (by decide) ?_
        refine vx_ret ?_
        exact W.iret (v := 2) hx hb hr (fun t ht hW => ⟨⟨_, u, rfl, (Or.inr (Or.inr (Or.inl ⟨rfl, hw⟩))), z_endG hK hI ht hW⟩, z_F hI ht⟩) (z_locs hI) dL_heatUp_20
      · skip
        by_cases hE2 : E = "java/lang/IllegalStateException"
        · subst hE2
          refine vx_catch (name := "java/lang/IllegalStateException") hown [⟨0, 10, 13, 13⟩, ⟨0, 10, 17, 15⟩] ⟨0, 10, 21, 17⟩ [] htab (List.forall_mem_cons.mpr ⟨Or.inr ⟨by decide, "java/lang/IndexOutOfBoundsException", hts (.classLink RL 13 "java/lang/IndexOutOfBoundsException") (by decide +kernel), hE.2.2.2.1 ("java/lang/IllegalStateException", "java/lang/IndexOutOfBoundsException") (by decide +kernel)⟩, List.forall_mem_cons.mpr ⟨Or.inr ⟨by decide, "java/lang/IllegalArgumentException", hts (.classLink RL 15 "java/lang/IllegalArgumentException") (by decide +kernel), hE.2.2.2.1 ("java/lang/IllegalStateException", "java/lang/IllegalArgumentException") (by decide +kernel)⟩, (fun _ h => absurd h List.not_mem_nil)⟩⟩) (by decide) (by decide) (hts (.classLink RL 17 "java/lang/IllegalStateException") (by decide +kernel)) (va_Nw.use rfl (hE.1 (.castable "java/lang/IllegalStateException" "java/lang/IllegalStateException") (by decide +kernel) rfl)) he1 he2 he3 ?_
          show W p l e _ s m _ below meth c H locs _ _ _ (F0 m 21 ls [.ref q9])
          refine lv_astore (lv' := [(4, .ref q9), (0, .ref p0), (1, .int p1), (2, .int p2), (3, .ref po)]) hx hb dL_heatUp_21 hl (by decide) rfl (fun ls hl => ?_)
          refine lv_iconst (v := 3) hx hb dL_heatUp_23 (by decide) ?_
          refine vx_ret ?_
          exact W.iret (v := 3) hx hb hr (fun t ht hW => ⟨⟨_, u, rfl, (Or.inr (Or.inr (Or.inr ⟨rfl, hw⟩))), z_endG hK hI ht hW⟩, z_F hI ht⟩) (z_locs hI) dL_heatUp_24
        · skip
          exact absurd hw (by simp [hE0, hE1, hE2])
  obtain ⟨L1, κ1, g1⟩ := u
  have hw : zHas g aC 6 p1 ∧ (L1, κ1, g1) = (L, κ, g) := hw
  have hko1 : κ1 po = 29 := by (repeat (first | (cases hw; exact hko) | (obtain ⟨_, hw⟩ := hw)))
  refine lv_i2l hx hb dL_heatUp_8 rfl ?_
  refine lv_topl (fun w9 ew9 => ?_)
  refine z_last (g' := zup g1 po (0 : Int32).toNatClampNeg (.long w9)) hM hI hko1 rfl rfl (vp_in_c 0 1 (by decide)) ⟨(zup_self _ _ _ _).symm, _, rfl⟩ (fun b j h => zup_ne h) dL_heatUp_9 (fun H locs hI => ?_)
  refine lv_goto (tgt := 25) hx hb dL_heatUp_10 (by decide) ?_
  refine lv_iconst (v := 0) hx hb dL_heatUp_25 (by decide) ?_
  refine vx_ret ?_
  exact W.iret (v := 0) hx hb hr (fun t ht hW => ⟨⟨_, (L1, κ1, zup g1 po 0 (.long w9)), rfl, Or.inl ⟨rfl, v, (L1, κ1, g1), w9, hw, ew9, rfl⟩, z_endG hK hI ht hW⟩, z_F hI ht⟩) (z_locs hI) dL_heatUp_26

set_option maxHeartbeats 4000000 in
set_option maxRecDepth 100000 in
theorem c_L_wall (l : Launch) (hnt : l.stackTraces = false) (D : va_G) (tc : Nat → ClassId) (z0 : Nat) (L : List Nat) (κ : Nat → Nat) (g : Nat → Nat → Value) (sz : Nat) (p0 : Nat) (hk0 : κ p0 = 10) (p1 : Int32) (po : Nat) (hko : κ po = 29) (sp : Nat) (hS9 : g p0 4 = .ref sp) : vx_Met l yL_wall wsL_wall ({ frames := 7, cells := 1, slots := 6, locals := 120 }) (zPc D tc z0 [.ref p0, .int p1, .ref po] [] (L, κ, g) sz) (va_Qi (fun (r : Int32) (u : zS) => (r = 0 ∧ ∃ (r1 : Int32) (u1 : zS) (v9 : Int64), (g sp 0 = .int r1 ∧ (0 ≤ p1 ∧ p1 ≤ 999) ∧ u1 = (L, κ, zup g sp 0 (.int p1))) ∧ v9 = r1.toInt64 ∧ u = (u1.1, u1.2.1, zup u1.2.2 po 0 (.long v9))) ∨ (r = 1 ∧ (("java/lang/IllegalArgumentException" = "java/lang/IllegalArgumentException" ∧ ¬ (0 ≤ p1 ∧ p1 ≤ 999)) ∧ u = (L, κ, g)))) (fun (u : zS) (t : State) => zB D tc (zA [] L sz) [] u t) (zA [] L sz)) (vx_X (fun u : zS => True) (fun (E : String) (u : zS) (t : State) => (False) ∧ zB D tc (zA [] L sz) [] u t) (zA [] L sz)) 1 6 (zA [] L sz) := by
  refine vx_ofWH (cc := cL_wall) (maxL := 4) (ret := (some .int)) (hh := [(0, 9, 12, 15)]) (by decide) rfl ?_
  intro p e s m args below meth c s₁ B hml hv
  obtain ⟨rfl, rfl, hK, hE, hI⟩ := hv.opn
  have hx := B.exec
  have hb := B.bytes
  have hr := B.returns
  have hts := atoms_spec (ws := wsL_wall) B.pre
  have hown : s.vm.findClass RL = some m.cls := findClass_of_methodNamed B.named
  have hlocks := B.notSynchronized
  have htab := vx_table (x := yL_wall) B (hts (.codeWith yL_wall cL_wall 4 (some .int) [(0, 9, 12, 15)]) List.mem_cons_self)
  have hM : zM p s m c cL_wall _ wsL_wall RL D tc := ⟨hx, hb, hts, hown, hK⟩
  have hl := lv_entry ([.ref p0, .int p1, .ref po]) (n := 4) (Nat.le_of_ble_eq_true rfl)
  rw [lg_entry_eq]
  generalize (lg_sl ([.ref p0, .int p1, .ref po]) ++ List.replicate (4 - (lg_sl ([.ref p0, .int p1, .ref po])).length) Slot.unset).toArray = ls at hl ⊢
  have hl : lv_has ls 4 [(0, .ref p0), (1, .int p1), (2, .ref po)] := hl
  refine lv_aload_n hx hb dL_wall_0 rfl (lv_at hl 2 rfl) ?_
  refine lv_iconst (v := 0) hx hb dL_wall_1 (by decide) ?_
  refine lv_aload_n hx hb dL_wall_2 rfl (lv_at hl 0 rfl) ?_
  refine lv_iload_n hx hb dL_wall_3 rfl (lv_at hl 1 rfl) ?_
  refine z_xi hI (vx_runV (As := [.int p1]) (rest := [.int 0, .ref po]) ⟨hx, hb, hml, hown, hts⟩ (c_X8_wall l hnt _ _ _ _ _ _ _ p0 hk0 p1 sp hS9) (cwV 1 hts gL_wall_X8_wall rfl rfl rfl (by decide +kernel) ⟨Nat.le_of_ble_eq_true rfl, Nat.le_of_ble_eq_true rfl⟩) (z_preV hK hE hI [] rfl rfl (z_recv hK hI hk0 rfl rfl)) rfl rfl hl.1 rfl (lv_room (Nat.le_of_ble_eq_true rfl)) dL_wall_4 ⟨Nat.le_of_ble_eq_true rfl, Nat.le_of_ble_eq_true rfl⟩) (fun E ce q9 u H locs hw hI he1 he2 he3 => ?_) (fun v u H locs hw hI => ?_)
  · have hw : (E = "java/lang/IllegalArgumentException" ∧ ¬ (0 ≤ p1 ∧ p1 ≤ 999)) ∧ u = (L, κ, g) := hw
    by_cases hE0 : E = "java/lang/IllegalArgumentException"
    · subst hE0
      refine vx_catch (name := "java/lang/IllegalArgumentException") hown [] ⟨0, 9, 12, 15⟩ [] htab (fun z hz => nomatch hz) (by decide) (by decide) (hts (.classLink RL 15 "java/lang/IllegalArgumentException") (by decide +kernel)) (va_Nw.use rfl (hE.1 (.castable "java/lang/IllegalArgumentException" "java/lang/IllegalArgumentException") (by decide +kernel) rfl)) he1 he2 he3 ?_
      show W p l e _ s m _ below meth c H locs _ _ _ (F0 m 12 ls [.ref q9])
      refine lv_astore_n (lv' := [(3, .ref q9), (0, .ref p0), (1, .int p1), (2, .ref po)]) hx hb dL_wall_12 rfl hl (by decide) rfl (fun ls hl => ?_)
      refine lv_iconst (v := 1) hx hb dL_wall_13 (by decide) ?_
      refine vx_ret ?_
      exact W.iret (v := 1) hx hb hr (fun t ht hW => ⟨⟨_, u, rfl, (Or.inr ⟨rfl, hw⟩), z_endG hK hI ht hW⟩, z_F hI ht⟩) (z_locs hI) dL_wall_14
    · skip
      exact absurd hw (by simp [hE0])
  obtain ⟨L1, κ1, g1⟩ := u
  have hw : g sp 0 = .int v ∧ (0 ≤ p1 ∧ p1 ≤ 999) ∧ (L1, κ1, g1) = (L, κ, zup g sp 0 (.int p1)) := hw
  have hko1 : κ1 po = 29 := by (repeat (first | (cases hw; exact hko) | (obtain ⟨_, hw⟩ := hw)))
  refine lv_i2l hx hb dL_wall_7 rfl ?_
  refine lv_topl (fun w9 ew9 => ?_)
  refine z_last (g' := zup g1 po (0 : Int32).toNatClampNeg (.long w9)) hM hI hko1 rfl rfl (vp_in_c 0 1 (by decide)) ⟨(zup_self _ _ _ _).symm, _, rfl⟩ (fun b j h => zup_ne h) dL_wall_8 (fun H locs hI => ?_)
  refine lv_goto (tgt := 15) hx hb dL_wall_9 (by decide) ?_
  refine lv_iconst (v := 0) hx hb dL_wall_15 (by decide) ?_
  refine vx_ret ?_
  exact W.iret (v := 0) hx hb hr (fun t ht hW => ⟨⟨_, (L1, κ1, zup g1 po 0 (.long w9)), rfl, Or.inl ⟨rfl, v, (L1, κ1, g1), w9, hw, ew9, rfl⟩, z_endG hK hI ht hW⟩, z_F hI ht⟩) (z_locs hI) dL_wall_16

set_option maxHeartbeats 4000000 in
set_option maxRecDepth 100000 in
theorem c_L_request (l : Launch) (hnt : l.stackTraces = false) (D : va_G) (tc : Nat → ClassId) (z0 : Nat) (L : List Nat) (κ : Nat → Nat) (g : Nat → Nat → Value) (sz : Nat) (p0 : Nat) (hk0 : κ p0 = 10) (p1 : Int32) (p2 : Int32) (po : Nat) (hko : κ po = 29) (rq : Nat) (hR : g p0 5 = .ref rq) (n9 k9 : Int32) (hn9 : g rq 0 = .int n9) (hk9 : g rq 1 = .int k9) : vx_Met l yL_request wsL_request ({ frames := 7, cells := 1, slots := 6, locals := 120 }) (zPc D tc z0 [.ref p0, .int p1, .int p2, .ref po] [] (L, κ, g) sz) (va_Qi (fun (r : Int32) (u : zS) => (r = 0 ∧ ∃ (r1 : Int32) (u1 : zS) (v9 : Int64), ((1 ≤ p1 ∧ p1 ≤ 9999) ∧ (0 ≤ p2 ∧ p2 ≤ 7) ∧ k9 < p1 ∧ r1 = n9 + 1 ∧ u1 = (L, κ, zup (zup (zup g rq 0 (.int (n9 + 1))) rq 1 (.int p1)) rq 4 (.int p1))) ∧ v9 = r1.toInt64 ∧ u = (u1.1, u1.2.1, zup u1.2.2 po 0 (.long v9))) ∨ (r = 1 ∧ (("java/lang/IllegalArgumentException" = "java/lang/IllegalArgumentException" ∧ ¬ (1 ≤ p1 ∧ p1 ≤ 9999) ∧ u = (L, κ, zup g rq 6 (.int 110))) ∨ ("java/lang/IllegalArgumentException" = "java/lang/IllegalArgumentException" ∧ (1 ≤ p1 ∧ p1 ≤ 9999) ∧ ¬ (0 ≤ p2 ∧ p2 ≤ 7) ∧ u = (L, κ, zup g rq 6 (.int 118))) ∨ ("java/lang/IllegalArgumentException" = "java/lang/UnsupportedOperationException" ∧ (1 ≤ p1 ∧ p1 ≤ 9999) ∧ (0 ≤ p2 ∧ p2 ≤ 7) ∧ p1 ≤ k9 ∧ u = (L, κ, zup g rq 6 (.int 115))))) ∨ (r = 2 ∧ (("java/lang/UnsupportedOperationException" = "java/lang/IllegalArgumentException" ∧ ¬ (1 ≤ p1 ∧ p1 ≤ 9999) ∧ u = (L, κ, zup g rq 6 (.int 110))) ∨ ("java/lang/UnsupportedOperationException" = "java/lang/IllegalArgumentException" ∧ (1 ≤ p1 ∧ p1 ≤ 9999) ∧ ¬ (0 ≤ p2 ∧ p2 ≤ 7) ∧ u = (L, κ, zup g rq 6 (.int 118))) ∨ ("java/lang/UnsupportedOperationException" = "java/lang/UnsupportedOperationException" ∧ (1 ≤ p1 ∧ p1 ≤ 9999) ∧ (0 ≤ p2 ∧ p2 ≤ 7) ∧ p1 ≤ k9 ∧ u = (L, κ, zup g rq 6 (.int 115)))))) (fun (u : zS) (t : State) => zB D tc (zA [] L sz) [] u t) (zA [] L sz)) (vx_X (fun u : zS => True) (fun (E : String) (u : zS) (t : State) => (False) ∧ zB D tc (zA [] L sz) [] u t) (zA [] L sz)) 1 6 (zA [] L sz) := by
  refine vx_ofWH (cc := cL_request) (maxL := 5) (ret := (some .int)) (hh := [(0, 10, 13, 15), (0, 10, 17, 30)]) (by decide) rfl ?_
  intro p e s m args below meth c s₁ B hml hv
  obtain ⟨rfl, rfl, hK, hE, hI⟩ := hv.opn
  have hx := B.exec
  have hb := B.bytes
  have hr := B.returns
  have hts := atoms_spec (ws := wsL_request) B.pre
  have hown : s.vm.findClass RL = some m.cls := findClass_of_methodNamed B.named
  have hlocks := B.notSynchronized
  have htab := vx_table (x := yL_request) B (hts (.codeWith yL_request cL_request 5 (some .int) [(0, 10, 13, 15), (0, 10, 17, 30)]) List.mem_cons_self)
  have hM : zM p s m c cL_request _ wsL_request RL D tc := ⟨hx, hb, hts, hown, hK⟩
  have hl := lv_entry ([.ref p0, .int p1, .int p2, .ref po]) (n := 5) (Nat.le_of_ble_eq_true rfl)
  rw [lg_entry_eq]
  generalize (lg_sl ([.ref p0, .int p1, .int p2, .ref po]) ++ List.replicate (5 - (lg_sl ([.ref p0, .int p1, .int p2, .ref po])).length) Slot.unset).toArray = ls at hl ⊢
  have hl : lv_has ls 5 [(0, .ref p0), (1, .int p1), (2, .int p2), (3, .ref po)] := hl
  refine lv_aload_n hx hb dL_request_0 rfl (lv_at hl 3 rfl) ?_
  refine lv_iconst (v := 0) hx hb dL_request_1 (by decide) ?_
  refine lv_aload_n hx hb dL_request_2 rfl (lv_at hl 0 rfl) ?_
  refine lv_iload_n hx hb dL_request_3 rfl (lv_at hl 1 rfl) ?_
  refine lv_iload_n hx hb dL_request_4 rfl (lv_at hl 2 rfl) ?_
  refine z_xi hI (vx_runV (As := [.int p1, .int p2]) (rest := [.int 0, .ref po]) ⟨hx, hb, hml, hown, hts⟩ (c_X8_request l hnt _ _ _ _ _ _ _ p0 hk0 p1 p2 rq hR n9 k9 hn9 hk9) (cwV 2 hts gL_request_X8_request rfl rfl rfl (by decide +kernel) ⟨Nat.le_of_ble_eq_true rfl, Nat.le_of_ble_eq_true rfl⟩) (z_preV hK hE hI [] rfl rfl (z_recv hK hI hk0 rfl rfl)) rfl rfl hl.1 rfl (lv_room (Nat.le_of_ble_eq_true rfl)) dL_request_5 ⟨Nat.le_of_ble_eq_true rfl, Nat.le_of_ble_eq_true rfl⟩) (fun E ce q9 u H locs hw hI he1 he2 he3 => ?_) (fun v u H locs hw hI => ?_)
  · have hw : (E = "java/lang/IllegalArgumentException" ∧ ¬ (1 ≤ p1 ∧ p1 ≤ 9999) ∧ u = (L, κ, zup g rq 6 (.int 110))) ∨ (E = "java/lang/IllegalArgumentException" ∧ (1 ≤ p1 ∧ p1 ≤ 9999) ∧ ¬ (0 ≤ p2 ∧ p2 ≤ 7) ∧ u = (L, κ, zup g rq 6 (.int 118))) ∨ (E = "java/lang/UnsupportedOperationException" ∧ (1 ≤ p1 ∧ p1 ≤ 9999) ∧ (0 ≤ p2 ∧ p2 ≤ 7) ∧ p1 ≤ k9 ∧ u = (L, κ, zup g rq 6 (.int 115))) := hw
    by_cases hE0 : E = "java/lang/IllegalArgumentException"
    · subst hE0
      refine vx_catch (name := "java/lang/IllegalArgumentException") hown [] ⟨0, 10, 13, 15⟩ [⟨0, 10, 17, 30⟩] htab (fun z hz => nomatch hz) (by decide) (by decide) (hts (.classLink RL 15 "java/lang/IllegalArgumentException") (by decide +kernel)) (va_Nw.use rfl (hE.1 (.castable "java/lang/IllegalArgumentException" "java/lang/IllegalArgumentException") (by decide +kernel) rfl)) he1 he2 he3 ?_
      show W p l e _ s m _ below meth c H locs _ _ _ (F0 m 13 ls [.ref q9])
      refine lv_astore (lv' := [(4, .ref q9), (0, .ref p0), (1, .int p1), (2, .int p2), (3, .ref po)]) hx hb dL_request_13 hl (by decide) rfl (fun ls hl => ?_)
      refine lv_iconst (v := 1) hx hb dL_request_15 (by decide) ?_
      refine vx_ret ?_
      exact W.iret (v := 1) hx hb hr (fun t ht hW => ⟨⟨_, u, rfl, (Or.inr (Or.inl ⟨rfl, hw⟩)), z_endG hK hI ht hW⟩, z_F hI ht⟩) (z_locs hI) dL_request_16
    · skip
      by_cases hE1 : E = "java/lang/UnsupportedOperationException"
      · subst hE1
        refine vx_catch (name := "java/lang/UnsupportedOperationException") hown [⟨0, 10, 13, 15⟩] ⟨0, 10, 17, 30⟩ [] htab (List.forall_mem_cons.mpr ⟨Or.inr ⟨by decide, "java/lang/IllegalArgumentException", hts (.classLink RL 15 "java/lang/IllegalArgumentException") (by decide +kernel), hE.2.2.2.1 ("java/lang/UnsupportedOperationException", "java/lang/IllegalArgumentException") (by decide +kernel)⟩, (fun _ h => absurd h List.not_mem_nil)⟩) (by decide) (by decide) (hts (.classLink RL 30 "java/lang/UnsupportedOperationException") (by decide +kernel)) (va_Nw.use rfl (hE.1 (.castable "java/lang/UnsupportedOperationException" "java/lang/UnsupportedOperationException") (by decide +kernel) rfl)) he1 he2 he3 ?_
        show W p l e _ s m _ below meth c H locs _ _ _ (F0 m 17 ls [.ref q9])
        refine lv_astore (lv' := [(4, .ref q9), (0, .ref p0), (1, .int p1), (2, .int p2), (3, .ref po)]) hx hb dL_request_17 hl (by decide) rfl (fun ls hl => ?_)
        refine lv_iconst (v := 2) hx hb dL_request_19 (by decide) ?_
        refine vx_ret ?_
        exact W.iret (v := 2) hx hb hr (fun t ht hW => ⟨⟨_, u, rfl, (Or.inr (Or.inr ⟨rfl, hw⟩)), z_endG hK hI ht hW⟩, z_F hI ht⟩) (z_locs hI) dL_request_20
      · skip
        exact absurd hw (by simp [hE0, hE1])
  obtain ⟨L1, κ1, g1⟩ := u
  have hw : (1 ≤ p1 ∧ p1 ≤ 9999) ∧ (0 ≤ p2 ∧ p2 ≤ 7) ∧ k9 < p1 ∧ v = n9 + 1 ∧ (L1, κ1, g1) = (L, κ, zup (zup (zup g rq 0 (.int (n9 + 1))) rq 1 (.int p1)) rq 4 (.int p1)) := hw
  have hko1 : κ1 po = 29 := by (repeat (first | (cases hw; exact hko) | (obtain ⟨_, hw⟩ := hw)))
  refine lv_i2l hx hb dL_request_8 rfl ?_
  refine lv_topl (fun w9 ew9 => ?_)
  refine z_last (g' := zup g1 po (0 : Int32).toNatClampNeg (.long w9)) hM hI hko1 rfl rfl (vp_in_c 0 1 (by decide)) ⟨(zup_self _ _ _ _).symm, _, rfl⟩ (fun b j h => zup_ne h) dL_request_9 (fun H locs hI => ?_)
  refine lv_goto (tgt := 21) hx hb dL_request_10 (by decide) ?_
  refine lv_iconst (v := 0) hx hb dL_request_21 (by decide) ?_
  refine vx_ret ?_
  exact W.iret (v := 0) hx hb hr (fun t ht hW => ⟨⟨_, (L1, κ1, zup g1 po 0 (.long w9)), rfl, Or.inl ⟨rfl, v, (L1, κ1, g1), w9, hw, ew9, rfl⟩, z_endG hK hI ht hW⟩, z_F hI ht⟩) (z_locs hI) dL_request_22

set_option maxHeartbeats 4000000 in
set_option maxRecDepth 100000 in
theorem c_L_age (l : Launch) (hnt : l.stackTraces = false) (D : va_G) (tc : Nat → ClassId) (z0 : Nat) (L : List Nat) (κ : Nat → Nat) (g : Nat → Nat → Value) (sz : Nat) (p0 : Nat) (hk0 : κ p0 = 10) (p1 : Int32) (po : Nat) (hko : κ po = 29) (aC : Nat) (hC : g p0 1 = .ref aC) : vx_Met l yL_age wsL_age ({ frames := 8, cells := 1, slots := 6, locals := 141 }) (zPc D tc z0 [.ref p0, .int p1, .ref po] [] (L, κ, g) sz) (va_Qi (fun (r : Int32) (u : zS) => (r = 0 ∧ ∃ (r1 : Int32) (u1 : zS) (v9 : Int64), (zHas g aC 6 p1 ∧ u1 = (L, κ, g)) ∧ v9 = r1.toInt64 ∧ u = (u1.1, u1.2.1, zup u1.2.2 po 0 (.long v9))) ∨ (r = 1 ∧ ((("java/lang/IndexOutOfBoundsException" = "java/lang/IndexOutOfBoundsException" ∧ ¬ zHas g aC 6 p1)) ∧ u = (L, κ, g)))) (fun (u : zS) (t : State) => zB D tc (zA [] L sz) [] u t) (zA [] L sz)) (vx_X (fun u : zS => True) (fun (E : String) (u : zS) (t : State) => (False) ∧ zB D tc (zA [] L sz) [] u t) (zA [] L sz)) 1 6 (zA [] L sz) := by
  refine vx_ofWH (cc := cL_age) (maxL := 4) (ret := (some .int)) (hh := [(0, 9, 12, 13)]) (by decide) rfl ?_
  intro p e s m args below meth c s₁ B hml hv
  obtain ⟨rfl, rfl, hK, hE, hI⟩ := hv.opn
  have hx := B.exec
  have hb := B.bytes
  have hr := B.returns
  have hts := atoms_spec (ws := wsL_age) B.pre
  have hown : s.vm.findClass RL = some m.cls := findClass_of_methodNamed B.named
  have hlocks := B.notSynchronized
  have htab := vx_table (x := yL_age) B (hts (.codeWith yL_age cL_age 4 (some .int) [(0, 9, 12, 13)]) List.mem_cons_self)
  have hM : zM p s m c cL_age _ wsL_age RL D tc := ⟨hx, hb, hts, hown, hK⟩
  have hl := lv_entry ([.ref p0, .int p1, .ref po]) (n := 4) (Nat.le_of_ble_eq_true rfl)
  rw [lg_entry_eq]
  generalize (lg_sl ([.ref p0, .int p1, .ref po]) ++ List.replicate (4 - (lg_sl ([.ref p0, .int p1, .ref po])).length) Slot.unset).toArray = ls at hl ⊢
  have hl : lv_has ls 4 [(0, .ref p0), (1, .int p1), (2, .ref po)] := hl
  refine lv_aload_n hx hb dL_age_0 rfl (lv_at hl 2 rfl) ?_
  refine lv_iconst (v := 0) hx hb dL_age_1 (by decide) ?_
  refine lv_aload_n hx hb dL_age_2 rfl (lv_at hl 0 rfl) ?_
  refine lv_iload_n hx hb dL_age_3 rfl (lv_at hl 1 rfl) ?_
  refine z_xi hI (vx_runV (As := [.int p1]) (rest := [.int 0, .ref po]) ⟨hx, hb, hml, hown, hts⟩ (c_X8_age l hnt _ _ _ _ _ _ _ p0 hk0 p1 aC hC) (cwV 1 hts gL_age_X8_age rfl rfl rfl (by decide +kernel) ⟨Nat.le_of_ble_eq_true rfl, Nat.le_of_ble_eq_true rfl⟩) (z_preV hK hE hI [] rfl rfl (z_recv hK hI hk0 rfl rfl)) rfl rfl hl.1 rfl (lv_room (Nat.le_of_ble_eq_true rfl)) dL_age_4 ⟨Nat.le_of_ble_eq_true rfl, Nat.le_of_ble_eq_true rfl⟩) (fun E ce q9 u H locs hw hI he1 he2 he3 => ?_) (fun v u H locs hw hI => ?_)
  · have hw : ((E = "java/lang/IndexOutOfBoundsException" ∧ ¬ zHas g aC 6 p1)) ∧ u = (L, κ, g) := hw
    by_cases hE0 : E = "java/lang/IndexOutOfBoundsException"
    · subst hE0
      refine vx_catch (name := "java/lang/IndexOutOfBoundsException") hown [] ⟨0, 9, 12, 13⟩ [] htab (fun z hz => nomatch hz) (by decide) (by decide) (hts (.classLink RL 13 "java/lang/IndexOutOfBoundsException") (by decide +kernel)) (va_Nw.use rfl (hE.1 (.castable "java/lang/IndexOutOfBoundsException" "java/lang/IndexOutOfBoundsException") (by decide +kernel) rfl)) he1 he2 he3 ?_
      show W p l e _ s m _ below meth c H locs _ _ _ (F0 m 12 ls [.ref q9])
      refine lv_astore_n (lv' := [(3, .ref q9), (0, .ref p0), (1, .int p1), (2, .ref po)]) hx hb dL_age_12 rfl hl (by decide) rfl (fun ls hl => ?_)
      refine lv_iconst (v := 1) hx hb dL_age_13 (by decide) ?_
      refine vx_ret ?_
      exact W.iret (v := 1) hx hb hr (fun t ht hW => ⟨⟨_, u, rfl, (Or.inr ⟨rfl, hw⟩), z_endG hK hI ht hW⟩, z_F hI ht⟩) (z_locs hI) dL_age_14
    · skip
      exact absurd hw (by simp [hE0])
  obtain ⟨L1, κ1, g1⟩ := u
  have hw : zHas g aC 6 p1 ∧ (L1, κ1, g1) = (L, κ, g) := hw
  have hko1 : κ1 po = 29 := by (repeat (first | (cases hw; exact hko) | (obtain ⟨_, hw⟩ := hw)))
  refine lv_i2l hx hb dL_age_7 rfl ?_
  refine lv_topl (fun w9 ew9 => ?_)
  refine z_last (g' := zup g1 po (0 : Int32).toNatClampNeg (.long w9)) hM hI hko1 rfl rfl (vp_in_c 0 1 (by decide)) ⟨(zup_self _ _ _ _).symm, _, rfl⟩ (fun b j h => zup_ne h) dL_age_8 (fun H locs hI => ?_)
  refine lv_goto (tgt := 15) hx hb dL_age_9 (by decide) ?_
  refine lv_iconst (v := 0) hx hb dL_age_15 (by decide) ?_
  refine vx_ret ?_
  exact W.iret (v := 0) hx hb hr (fun t ht hW => ⟨⟨_, (L1, κ1, zup g1 po 0 (.long w9)), rfl, Or.inl ⟨rfl, v, (L1, κ1, g1), w9, hw, ew9, rfl⟩, z_endG hK hI ht hW⟩, z_F hI ht⟩) (z_locs hI) dL_age_16

set_option maxHeartbeats 4000000 in
set_option maxRecDepth 100000 in
theorem c_L_isRetired (l : Launch) (hnt : l.stackTraces = false) (D : va_G) (tc : Nat → ClassId) (z0 : Nat) (L : List Nat) (κ : Nat → Nat) (g : Nat → Nat → Value) (sz : Nat) (p0 : Nat) (hk0 : κ p0 = 10) (p1 : Int32) (po : Nat) (hko : κ po = 29) (aC : Nat) (hC : g p0 1 = .ref aC) : vx_Met l yL_isRetired wsL_isRetired ({ frames := 8, cells := 1, slots := 6, locals := 141 }) (zPc D tc z0 [.ref p0, .int p1, .ref po] [] (L, κ, g) sz) (va_Qi (fun (r : Int32) (u : zS) => (r = 0 ∧ ∃ (r1 : Int32) (u1 : zS) (v9 : Int64), (zHas g aC 6 p1 ∧ u1 = (L, κ, g)) ∧ v9 = (if r1 = 0 then 0 else 1) ∧ u = (u1.1, u1.2.1, zup u1.2.2 po 0 (.long v9))) ∨ (r = 1 ∧ ((("java/lang/IndexOutOfBoundsException" = "java/lang/IndexOutOfBoundsException" ∧ ¬ zHas g aC 6 p1)) ∧ u = (L, κ, g)))) (fun (u : zS) (t : State) => zB D tc (zA [] L sz) [] u t) (zA [] L sz)) (vx_X (fun u : zS => True) (fun (E : String) (u : zS) (t : State) => (False) ∧ zB D tc (zA [] L sz) [] u t) (zA [] L sz)) 1 6 (zA [] L sz) := by
  refine vx_ofWH (cc := cL_isRetired) (maxL := 4) (ret := (some .int)) (hh := [(0, 16, 19, 13)]) (by decide) rfl ?_
  intro p e s m args below meth c s₁ B hml hv
  obtain ⟨rfl, rfl, hK, hE, hI⟩ := hv.opn
  have hx := B.exec
  have hb := B.bytes
  have hr := B.returns
  have hts := atoms_spec (ws := wsL_isRetired) B.pre
  have hown : s.vm.findClass RL = some m.cls := findClass_of_methodNamed B.named
  have hlocks := B.notSynchronized
  have htab := vx_table (x := yL_isRetired) B (hts (.codeWith yL_isRetired cL_isRetired 4 (some .int) [(0, 16, 19, 13)]) List.mem_cons_self)
  have hM : zM p s m c cL_isRetired _ wsL_isRetired RL D tc := ⟨hx, hb, hts, hown, hK⟩
  have hl := lv_entry ([.ref p0, .int p1, .ref po]) (n := 4) (Nat.le_of_ble_eq_true rfl)
  rw [lg_entry_eq]
  generalize (lg_sl ([.ref p0, .int p1, .ref po]) ++ List.replicate (4 - (lg_sl ([.ref p0, .int p1, .ref po])).length) Slot.unset).toArray = ls at hl ⊢
  have hl : lv_has ls 4 [(0, .ref p0), (1, .int p1), (2, .ref po)] := hl
  refine lv_aload_n hx hb dL_isRetired_0 rfl (lv_at hl 2 rfl) ?_
  refine lv_iconst (v := 0) hx hb dL_isRetired_1 (by decide) ?_
  refine lv_aload_n hx hb dL_isRetired_2 rfl (lv_at hl 0 rfl) ?_
  refine lv_iload_n hx hb dL_isRetired_3 rfl (lv_at hl 1 rfl) ?_
  refine z_xi hI (vx_runV (As := [.int p1]) (rest := [.int 0, .ref po]) ⟨hx, hb, hml, hown, hts⟩ (c_X8_isRetired l hnt _ _ _ _ _ _ _ p0 hk0 p1 aC hC) (cwV 1 hts gL_isRetired_X8_isRetired rfl rfl rfl (by decide +kernel) ⟨Nat.le_of_ble_eq_true rfl, Nat.le_of_ble_eq_true rfl⟩) (z_preV hK hE hI [] rfl rfl (z_recv hK hI hk0 rfl rfl)) rfl rfl hl.1 rfl (lv_room (Nat.le_of_ble_eq_true rfl)) dL_isRetired_4 ⟨Nat.le_of_ble_eq_true rfl, Nat.le_of_ble_eq_true rfl⟩) (fun E ce q9 u H locs hw hI he1 he2 he3 => ?_) (fun v u H locs hw hI => ?_)
  · have hw : ((E = "java/lang/IndexOutOfBoundsException" ∧ ¬ zHas g aC 6 p1)) ∧ u = (L, κ, g) := hw
    by_cases hE0 : E = "java/lang/IndexOutOfBoundsException"
    · subst hE0
      refine vx_catch (name := "java/lang/IndexOutOfBoundsException") hown [] ⟨0, 16, 19, 13⟩ [] htab (fun z hz => nomatch hz) (by decide) (by decide) (hts (.classLink RL 13 "java/lang/IndexOutOfBoundsException") (by decide +kernel)) (va_Nw.use rfl (hE.1 (.castable "java/lang/IndexOutOfBoundsException" "java/lang/IndexOutOfBoundsException") (by decide +kernel) rfl)) he1 he2 he3 ?_
      show W p l e _ s m _ below meth c H locs _ _ _ (F0 m 19 ls [.ref q9])
      refine lv_astore_n (lv' := [(3, .ref q9), (0, .ref p0), (1, .int p1), (2, .ref po)]) hx hb dL_isRetired_19 rfl hl (by decide) rfl (fun ls hl => ?_)
      refine lv_iconst (v := 1) hx hb dL_isRetired_20 (by decide) ?_
      refine vx_ret ?_
      exact W.iret (v := 1) hx hb hr (fun t ht hW => ⟨⟨_, u, rfl, (Or.inr ⟨rfl, hw⟩), z_endG hK hI ht hW⟩, z_F hI ht⟩) (z_locs hI) dL_isRetired_21
    · skip
      exact absurd hw (by simp [hE0])
  obtain ⟨L1, κ1, g1⟩ := u
  have hw : zHas g aC 6 p1 ∧ (L1, κ1, g1) = (L, κ, g) := hw
  have hko1 : κ1 po = 29 := by (repeat (first | (cases hw; exact hko) | (obtain ⟨_, hw⟩ := hw)))
  refine lv_if_eq (tgt := 14) hx hb dL_isRetired_7 (by decide) (fun cz => ?_) (fun cz => ?_)
  · refine lv_lconst (v := 0) hx hb dL_isRetired_14 (by decide) ?_
    refine z_last (g' := zup g1 po (0 : Int32).toNatClampNeg (.long 0)) hM hI hko1 rfl rfl (vp_in_c 0 1 (by decide)) ⟨(zup_self _ _ _ _).symm, _, rfl⟩ (fun b j h => zup_ne h) dL_isRetired_15 (fun H locs hI => ?_)
    refine lv_goto (tgt := 22) hx hb dL_isRetired_16 (by decide) ?_
    refine lv_iconst (v := 0) hx hb dL_isRetired_22 (by decide) ?_
    refine vx_ret ?_
    exact W.iret (v := 0) hx hb hr (fun t ht hW => ⟨⟨_, (L1, κ1, zup g1 po 0 (.long 0)), rfl, Or.inl ⟨rfl, v, (L1, κ1, g1), 0, hw, (if_pos cz).symm, rfl⟩, z_endG hK hI ht hW⟩, z_F hI ht⟩) (z_locs hI) dL_isRetired_23
  · refine lv_lconst (v := 1) hx hb dL_isRetired_10 (by decide) ?_
    refine lv_goto (tgt := 15) hx hb dL_isRetired_11 (by decide) ?_
    refine z_last (g' := zup g1 po (0 : Int32).toNatClampNeg (.long 1)) hM hI hko1 rfl rfl (vp_in_c 0 1 (by decide)) ⟨(zup_self _ _ _ _).symm, _, rfl⟩ (fun b j h => zup_ne h) dL_isRetired_15 (fun H locs hI => ?_)
    refine lv_goto (tgt := 22) hx hb dL_isRetired_16 (by decide) ?_
    refine lv_iconst (v := 0) hx hb dL_isRetired_22 (by decide) ?_
    refine vx_ret ?_
    exact W.iret (v := 0) hx hb hr (fun t ht hW => ⟨⟨_, (L1, κ1, zup g1 po 0 (.long 1)), rfl, Or.inl ⟨rfl, v, (L1, κ1, g1), 1, hw, (if_neg cz).symm, rfl⟩, z_endG hK hI ht hW⟩, z_F hI ht⟩) (z_locs hI) dL_isRetired_23

set_option maxHeartbeats 4000000 in
set_option maxRecDepth 100000 in
theorem c_L_wear (l : Launch) (hnt : l.stackTraces = false) (D : va_G) (tc : Nat → ClassId) (z0 : Nat) (L : List Nat) (κ : Nat → Nat) (g : Nat → Nat → Value) (sz : Nat) (p0 : Nat) (hk0 : κ p0 = 10) (p1 : Int32) (p2 : Int32) (po : Nat) (hko : κ po = 29) (aC : Nat) (hC : g p0 1 = .ref aC) : vx_Met l yL_wear wsL_wear ({ frames := 8, cells := 2, slots := 12, locals := 143 }) (zPc D tc z0 [.ref p0, .int p1, .int p2, .ref po] [] (L, κ, g) sz) (va_Qi (fun (r : Int32) (u : zS) => (r = 0 ∧ ∃ (r1 : Int32) (u1 : zS) (v9 : Int64), (zHas g aC 6 p1 ∧ u1 = (L, κ, g)) ∧ v9 = r1.toInt64 ∧ u = (u1.1, u1.2.1, zup u1.2.2 po 0 (.long v9))) ∨ (r = 1 ∧ ((("java/lang/IndexOutOfBoundsException" = "java/lang/IndexOutOfBoundsException" ∧ ¬ zHas g aC 6 p1) ∨ ("java/lang/IndexOutOfBoundsException" = "java/lang/IllegalArgumentException") ∨ ("java/lang/IndexOutOfBoundsException" = "java/lang/IllegalStateException")) ∧ u = (L, κ, g))) ∨ (r = 2 ∧ ((("java/lang/IllegalArgumentException" = "java/lang/IndexOutOfBoundsException" ∧ ¬ zHas g aC 6 p1) ∨ ("java/lang/IllegalArgumentException" = "java/lang/IllegalArgumentException") ∨ ("java/lang/IllegalArgumentException" = "java/lang/IllegalStateException")) ∧ u = (L, κ, g))) ∨ (r = 3 ∧ ((("java/lang/IllegalStateException" = "java/lang/IndexOutOfBoundsException" ∧ ¬ zHas g aC 6 p1) ∨ ("java/lang/IllegalStateException" = "java/lang/IllegalArgumentException") ∨ ("java/lang/IllegalStateException" = "java/lang/IllegalStateException")) ∧ u = (L, κ, g)))) (fun (u : zS) (t : State) => zB D tc (zA [] L sz) [] u t) (zA [] L sz)) (vx_X (fun u : zS => True) (fun (E : String) (u : zS) (t : State) => (False) ∧ zB D tc (zA [] L sz) [] u t) (zA [] L sz)) 2 12 (zA [] L sz) := by
  refine vx_ofWH (cc := cL_wear) (maxL := 5) (ret := (some .int)) (hh := [(0, 10, 13, 13), (0, 10, 17, 15), (0, 10, 21, 17)]) (by decide) rfl ?_
  intro p e s m args below meth c s₁ B hml hv
  obtain ⟨rfl, rfl, hK, hE, hI⟩ := hv.opn
  have hx := B.exec
  have hb := B.bytes
  have hr := B.returns
  have hts := atoms_spec (ws := wsL_wear) B.pre
  have hown : s.vm.findClass RL = some m.cls := findClass_of_methodNamed B.named
  have hlocks := B.notSynchronized
  have htab := vx_table (x := yL_wear) B (hts (.codeWith yL_wear cL_wear 5 (some .int) [(0, 10, 13, 13), (0, 10, 17, 15), (0, 10, 21, 17)]) List.mem_cons_self)
  have hM : zM p s m c cL_wear _ wsL_wear RL D tc := ⟨hx, hb, hts, hown, hK⟩
  have hl := lv_entry ([.ref p0, .int p1, .int p2, .ref po]) (n := 5) (Nat.le_of_ble_eq_true rfl)
  rw [lg_entry_eq]
  generalize (lg_sl ([.ref p0, .int p1, .int p2, .ref po]) ++ List.replicate (5 - (lg_sl ([.ref p0, .int p1, .int p2, .ref po])).length) Slot.unset).toArray = ls at hl ⊢
  have hl : lv_has ls 5 [(0, .ref p0), (1, .int p1), (2, .int p2), (3, .ref po)] := hl
  refine lv_aload_n hx hb dL_wear_0 rfl (lv_at hl 3 rfl) ?_
  refine lv_iconst (v := 0) hx hb dL_wear_1 (by decide) ?_
  refine lv_aload_n hx hb dL_wear_2 rfl (lv_at hl 0 rfl) ?_
  refine lv_iload_n hx hb dL_wear_3 rfl (lv_at hl 1 rfl) ?_
  refine lv_iload_n hx hb dL_wear_4 rfl (lv_at hl 2 rfl) ?_
  refine z_xi hI (vx_runV (As := [.int p1, .int p2]) (rest := [.int 0, .ref po]) ⟨hx, hb, hml, hown, hts⟩ (c_X8_wear l hnt _ _ _ _ _ _ _ p0 hk0 p1 p2 aC hC) (cwV 2 hts gL_wear_X8_wear rfl rfl rfl (by decide +kernel) ⟨Nat.le_of_ble_eq_true rfl, Nat.le_of_ble_eq_true rfl⟩) (z_preV hK hE hI [] rfl rfl (z_recv hK hI hk0 rfl rfl)) rfl rfl hl.1 rfl (lv_room (Nat.le_of_ble_eq_true rfl)) dL_wear_5 ⟨Nat.le_of_ble_eq_true rfl, Nat.le_of_ble_eq_true rfl⟩) (fun E ce q9 u H locs hw hI he1 he2 he3 => ?_) (fun v u H locs hw hI => ?_)
  · have hw : ((E = "java/lang/IndexOutOfBoundsException" ∧ ¬ zHas g aC 6 p1) ∨ (E = "java/lang/IllegalArgumentException") ∨ (E = "java/lang/IllegalStateException")) ∧ u = (L, κ, g) := hw
    by_cases hE0 : E = "java/lang/IndexOutOfBoundsException"
    · subst hE0
      refine vx_catch (name := "java/lang/IndexOutOfBoundsException") hown [] ⟨0, 10, 13, 13⟩ [⟨0, 10, 17, 15⟩, ⟨0, 10, 21, 17⟩] htab (fun z hz => nomatch hz) (by decide) (by decide) (hts (.classLink RL 13 "java/lang/IndexOutOfBoundsException") (by decide +kernel)) (va_Nw.use rfl (hE.1 (.castable "java/lang/IndexOutOfBoundsException" "java/lang/IndexOutOfBoundsException") (by decide +kernel) rfl)) he1 he2 he3 ?_
      show W p l e _ s m _ below meth c H locs _ _ _ (F0 m 13 ls [.ref q9])
      refine lv_astore (lv' := [(4, .ref q9), (0, .ref p0), (1, .int p1), (2, .int p2), (3, .ref po)]) hx hb dL_wear_13 hl (by decide) rfl (fun ls hl => ?_)
      refine lv_iconst (v := 1) hx hb dL_wear_15 (by decide) ?_
      refine vx_ret ?_
      exact W.iret (v := 1) hx hb hr (fun t ht hW => ⟨⟨_, u, rfl, (Or.inr (Or.inl ⟨rfl, hw⟩)), z_endG hK hI ht hW⟩, z_F hI ht⟩) (z_locs hI) dL_wear_16
    · skip
      by_cases hE1 : E = "java/lang/IllegalArgumentException"
      · subst hE1
        refine vx_catch (name := "java/lang/IllegalArgumentException") hown [⟨0, 10, 13, 13⟩] ⟨0, 10, 17, 15⟩ [⟨0, 10, 21, 17⟩] htab (List.forall_mem_cons.mpr ⟨Or.inr ⟨by decide, "java/lang/IndexOutOfBoundsException", hts (.classLink RL 13 "java/lang/IndexOutOfBoundsException") (by decide +kernel), hE.2.2.2.1 ("java/lang/IllegalArgumentException", "java/lang/IndexOutOfBoundsException") (by decide +kernel)⟩, (fun _ h => absurd h List.not_mem_nil)⟩) (by decide) (by decide) (hts (.classLink RL 15 "java/lang/IllegalArgumentException") (by decide +kernel)) (va_Nw.use rfl (hE.1 (.castable "java/lang/IllegalArgumentException" "java/lang/IllegalArgumentException") (by decide +kernel) rfl)) he1 he2 he3 ?_
        show W p l e _ s m _ below meth c H locs _ _ _ (F0 m 17 ls [.ref q9])
        refine lv_astore (lv' := [(4, .ref q9), (0, .ref p0), (1, .int p1), (2, .int p2), (3, .ref po)]) hx hb dL_wear_17 hl (by decide) rfl (fun ls hl => ?_)
        refine lv_iconst (v := 2) hx hb dL_wear_19 (by decide) ?_
        refine vx_ret ?_
        exact W.iret (v := 2) hx hb hr (fun t ht hW => ⟨⟨_, u, rfl, (Or.inr (Or.inr (Or.inl ⟨rfl, hw⟩))), z_endG hK hI ht hW⟩, z_F hI ht⟩) (z_locs hI) dL_wear_20
      · skip
        by_cases hE2 : E = "java/lang/IllegalStateException"
        · subst hE2
          refine vx_catch (name := "java/lang/IllegalStateException") hown [⟨0, 10, 13, 13⟩, ⟨0, 10, 17, 15⟩] ⟨0, 10, 21, 17⟩ [] htab (List.forall_mem_cons.mpr ⟨Or.inr ⟨by decide, "java/lang/IndexOutOfBoundsException", hts (.classLink RL 13 "java/lang/IndexOutOfBoundsException") (by decide +kernel), hE.2.2.2.1 ("java/lang/IllegalStateException", "java/lang/IndexOutOfBoundsException") (by decide +kernel)⟩, List.forall_mem_cons.mpr ⟨Or.inr ⟨by decide, "java/lang/IllegalArgumentException", hts (.classLink RL 15 "java/lang/IllegalArgumentException") (by decide +kernel), hE.2.2.2.1 ("java/lang/IllegalStateException", "java/lang/IllegalArgumentException") (by decide +kernel)⟩, (fun _ h => absurd h List.not_mem_nil)⟩⟩) (by decide) (by decide) (hts (.classLink RL 17 "java/lang/IllegalStateException") (by decide +kernel)) (va_Nw.use rfl (hE.1 (.castable "java/lang/IllegalStateException" "java/lang/IllegalStateException") (by decide +kernel) rfl)) he1 he2 he3 ?_
          show W p l e _ s m _ below meth c H locs _ _ _ (F0 m 21 ls [.ref q9])
          refine lv_astore (lv' := [(4, .ref q9), (0, .ref p0), (1, .int p1), (2, .int p2), (3, .ref po)]) hx hb dL_wear_21 hl (by decide) rfl (fun ls hl => ?_)
          refine lv_iconst (v := 3) hx hb dL_wear_23 (by decide) ?_
          refine vx_ret ?_
          exact W.iret (v := 3) hx hb hr (fun t ht hW => ⟨⟨_, u, rfl, (Or.inr (Or.inr (Or.inr ⟨rfl, hw⟩))), z_endG hK hI ht hW⟩, z_F hI ht⟩) (z_locs hI) dL_wear_24
        · skip
          exact absurd hw (by simp [hE0, hE1, hE2])
  obtain ⟨L1, κ1, g1⟩ := u
  have hw : zHas g aC 6 p1 ∧ (L1, κ1, g1) = (L, κ, g) := hw
  have hko1 : κ1 po = 29 := by (repeat (first | (cases hw; exact hko) | (obtain ⟨_, hw⟩ := hw)))
  refine lv_i2l hx hb dL_wear_8 rfl ?_
  refine lv_topl (fun w9 ew9 => ?_)
  refine z_last (g' := zup g1 po (0 : Int32).toNatClampNeg (.long w9)) hM hI hko1 rfl rfl (vp_in_c 0 1 (by decide)) ⟨(zup_self _ _ _ _).symm, _, rfl⟩ (fun b j h => zup_ne h) dL_wear_9 (fun H locs hI => ?_)
  refine lv_goto (tgt := 25) hx hb dL_wear_10 (by decide) ?_
  refine lv_iconst (v := 0) hx hb dL_wear_25 (by decide) ?_
  refine vx_ret ?_
  exact W.iret (v := 0) hx hb hr (fun t ht hW => ⟨⟨_, (L1, κ1, zup g1 po 0 (.long w9)), rfl, Or.inl ⟨rfl, v, (L1, κ1, g1), w9, hw, ew9, rfl⟩, z_endG hK hI ht hW⟩, z_F hI ht⟩) (z_locs hI) dL_wear_26

set_option maxHeartbeats 4000000 in
set_option maxRecDepth 100000 in
theorem c_L_account (l : Launch) (hnt : l.stackTraces = false) (D : va_G) (tc : Nat → ClassId) (z0 : Nat) (L : List Nat) (κ : Nat → Nat) (g : Nat → Nat → Value) (sz : Nat) (p0 : Nat) (hk0 : κ p0 = 10) (p1 : Int32) (po : Nat) (hko : κ po = 29) : vx_Met l yL_account wsL_account ({ frames := 7, cells := 1, slots := 6, locals := 119 }) (zPc D tc z0 [.ref p0, .int p1, .ref po] [] (L, κ, g) sz) (va_Qi (fun (r : Int32) (u : zS) => (r = 0 ∧ ∃ (r1 : Int64) (u1 : zS) (v9 : Int64), (u1 = (L, κ, g)) ∧ v9 = r1 ∧ u = (u1.1, u1.2.1, zup u1.2.2 po 0 (.long v9))) ∨ (r = 1 ∧ ("java/lang/IllegalArgumentException" = "java/lang/IllegalArgumentException" ∧ u = (L, κ, g)))) (fun (u : zS) (t : State) => zB D tc (zA [] L sz) [] u t) (zA [] L sz)) (vx_X (fun u : zS => True) (fun (E : String) (u : zS) (t : State) => (False) ∧ zB D tc (zA [] L sz) [] u t) (zA [] L sz)) 1 6 (zA [] L sz) := by
  refine vx_ofWH (cc := cL_account) (maxL := 4) (ret := (some .int)) (hh := [(0, 8, 11, 15)]) (by decide) rfl ?_
  intro p e s m args below meth c s₁ B hml hv
  obtain ⟨rfl, rfl, hK, hE, hI⟩ := hv.opn
  have hx := B.exec
  have hb := B.bytes
  have hr := B.returns
  have hts := atoms_spec (ws := wsL_account) B.pre
  have hown : s.vm.findClass RL = some m.cls := findClass_of_methodNamed B.named
  have hlocks := B.notSynchronized
  have htab := vx_table (x := yL_account) B (hts (.codeWith yL_account cL_account 4 (some .int) [(0, 8, 11, 15)]) List.mem_cons_self)
  have hM : zM p s m c cL_account _ wsL_account RL D tc := ⟨hx, hb, hts, hown, hK⟩
  have hl := lv_entry ([.ref p0, .int p1, .ref po]) (n := 4) (Nat.le_of_ble_eq_true rfl)
  rw [lg_entry_eq]
  generalize (lg_sl ([.ref p0, .int p1, .ref po]) ++ List.replicate (4 - (lg_sl ([.ref p0, .int p1, .ref po])).length) Slot.unset).toArray = ls at hl ⊢
  have hl : lv_has ls 4 [(0, .ref p0), (1, .int p1), (2, .ref po)] := hl
  refine lv_aload_n hx hb dL_account_0 rfl (lv_at hl 2 rfl) ?_
  refine lv_iconst (v := 0) hx hb dL_account_1 (by decide) ?_
  refine lv_aload_n hx hb dL_account_2 rfl (lv_at hl 0 rfl) ?_
  refine lv_iload_n hx hb dL_account_3 rfl (lv_at hl 1 rfl) ?_
  refine z_xl hI (vx_runV (As := [.int p1]) (rest := [.int 0, .ref po]) ⟨hx, hb, hml, hown, hts⟩ (c_X8_account l hnt _ _ _ _ _ _ _ p0 hk0 p1) (cwV 1 hts gL_account_X8_account rfl rfl rfl (by decide +kernel) ⟨Nat.le_of_ble_eq_true rfl, Nat.le_of_ble_eq_true rfl⟩) (z_preV hK hE hI [] rfl rfl (z_recv hK hI hk0 rfl rfl)) rfl rfl hl.1 rfl (lv_room (Nat.le_of_ble_eq_true rfl)) dL_account_4 ⟨Nat.le_of_ble_eq_true rfl, Nat.le_of_ble_eq_true rfl⟩) (fun E ce q9 u H locs hw hI he1 he2 he3 => ?_) (fun v u H locs hw hI => ?_)
  · have hw : E = "java/lang/IllegalArgumentException" ∧ u = (L, κ, g) := hw
    by_cases hE0 : E = "java/lang/IllegalArgumentException"
    · subst hE0
      refine vx_catch (name := "java/lang/IllegalArgumentException") hown [] ⟨0, 8, 11, 15⟩ [] htab (fun z hz => nomatch hz) (by decide) (by decide) (hts (.classLink RL 15 "java/lang/IllegalArgumentException") (by decide +kernel)) (va_Nw.use rfl (hE.1 (.castable "java/lang/IllegalArgumentException" "java/lang/IllegalArgumentException") (by decide +kernel) rfl)) he1 he2 he3 ?_
      show W p l e _ s m _ below meth c H locs _ _ _ (F0 m 11 ls [.ref q9])
      refine lv_astore_n (lv' := [(3, .ref q9), (0, .ref p0), (1, .int p1), (2, .ref po)]) hx hb dL_account_11 rfl hl (by decide) rfl (fun ls hl => ?_)
      refine lv_iconst (v := 1) hx hb dL_account_12 (by decide) ?_
      refine vx_ret ?_
      exact W.iret (v := 1) hx hb hr (fun t ht hW => ⟨⟨_, u, rfl, (Or.inr ⟨rfl, hw⟩), z_endG hK hI ht hW⟩, z_F hI ht⟩) (z_locs hI) dL_account_13
    · skip
      exact absurd hw (by simp [hE0])
  obtain ⟨L1, κ1, g1⟩ := u
  have hw : (L1, κ1, g1) = (L, κ, g) := hw
  have hko1 : κ1 po = 29 := by (repeat (first | (cases hw; exact hko) | (obtain ⟨_, hw⟩ := hw)))
  refine z_last (g' := zup g1 po (0 : Int32).toNatClampNeg (.long v)) hM hI hko1 rfl rfl (vp_in_c 0 1 (by decide)) ⟨(zup_self _ _ _ _).symm, _, rfl⟩ (fun b j h => zup_ne h) dL_account_7 (fun H locs hI => ?_)
  refine lv_goto (tgt := 14) hx hb dL_account_8 (by decide) ?_
  refine lv_iconst (v := 0) hx hb dL_account_14 (by decide) ?_
  refine vx_ret ?_
  exact W.iret (v := 0) hx hb hr (fun t ht hW => ⟨⟨_, (L1, κ1, zup g1 po 0 (.long v)), rfl, Or.inl ⟨rfl, v, (L1, κ1, g1), v, hw, rfl, rfl⟩, z_endG hK hI ht hW⟩, z_F hI ht⟩) (z_locs hI) dL_account_15
