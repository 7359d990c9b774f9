theorem z_ofWHD {cs : List Choice} {l : Launch} {y : MethodName} {ws ws' : List Cond} {rm : Room} {Pc : Array Value → State → Prop} {Qc : Array Value → State → Outcome → State → Prop} {mc ms : Nat} {free : Addr → Prop} {cc : ByteArray} {maxL : Nat} {ret : Option FieldType} {hh : List (Nat × Nat × Nat × Nat)}
    (hy : plainName y.cls = true) (hw : ws = Cond.codeWith y cc maxL ret hh :: ws')
    (body : ∀ p e s m args below meth c s₁, BodyLoose p l y (headSpec ws rm) cc maxL ret e s m args below meth c s₁ → c.maxLocals = maxL → Pc args s → s.drawn.sameBut s.drawn cs →
      W p l e (headSpec ws rm).room (s.setDrawn s.drawn) m args below meth c s.heap [] 0 0 (MQD cs below Qc args s mc ms free) (entryFrame m args maxL)) : MetD cs l y ws rm Pc Qc mc ms free := by
  refine MetFree.of_bodyS (code := cc) (maxLocals := maxL) (ret := ret) hy ?_ ?_
  · intro args s m h hn
    obtain ⟨m9, meth, c, hn9, h1, h2, h3, h4, -, h5, h6, -⟩ := Cond.codeWith_spec (atoms_spec (ws := ws) h _ (by rw [hw]; exact List.mem_cons_self))
    cases hn.symm.trans hn9
    exact ⟨meth, c, h1, h2, h3, h4, h5, h6⟩
  · intro p e s m args below meth c s₁ B hml hP _
    obtain ⟨t, a1, d, hd, o, b1, b2, b3, b4⟩ := body p e s m args below meth c s₁ B hml hP (Drawn.sameBut.refl _ _) s₁ (by rw [B.state]; rfl) (Stand.of_body B)
    exact ⟨t, o, a1, b1, b2, d, hd, b3, b4⟩
set_option maxHeartbeats 4000000 in
set_option maxRecDepth 100000 in
theorem c_L_busyShare_no (l : Launch) (hnt : l.stackTraces = false) (D : va_G) (tc : Nat → ClassId) (z0 : Nat) (L : List Nat) (κ : Nat → Nat) (g : Nat → Nat → Value) (sz : Nat) (p0 : Nat) (hk0 : κ p0 = 10) (pd : Nat) (hkd : κ pd = 30) (aC : Nat) (hC : g p0 1 = .ref aC) (hn9 : ∀ j : Nat, j < 6 → g aC j = .null) : vx_Met l yL_busyShare wsL_busyShare ({ frames := 7, cells := 1, slots := 6, locals := 124 }) (zPc D tc z0 [.ref p0, .ref pd] [] (L, κ, g) sz) (va_Qi (fun (r : Int32) (u : zS) => r = 1 ∧ u = (L, κ, g)) (fun (u : zS) (t : State) => zB D tc (zA [] L sz) [] u t) (zA [] L sz)) (vx_X (fun u : zS => True) (fun (E : String) (u : zS) (t : State) => (False) ∧ zB D tc (zA [] L sz) [] u t) (zA [] L sz)) 1 6 (zA [] L sz) := by
  refine vx_ofWH (cc := cL_busyShare) (maxL := 3) (ret := (some .int)) (hh := [(0, 8, 11, 78)]) (by decide) rfl ?_
  intro p e s m args below meth c s₁ B hml hv
  obtain ⟨rfl, rfl, hK, hE, hI⟩ := hv.opn
  have hx := B.exec
  have hb := B.bytes
  have hr := B.returns
  have hts := atoms_spec (ws := wsL_busyShare) B.pre
  have hown : s.vm.findClass RL = some m.cls := findClass_of_methodNamed B.named
  have hlocks := B.notSynchronized
  have htab := vx_table (x := yL_busyShare) B (hts (.codeWith yL_busyShare cL_busyShare 3 (some .int) [(0, 8, 11, 78)]) List.mem_cons_self)
  have hM : zM p s m c cL_busyShare _ wsL_busyShare RL D tc := ⟨hx, hb, hts, hown, hK⟩
  have hl := lv_entry ([.ref p0, .ref pd]) (n := 3) (Nat.le_of_ble_eq_true rfl)
  rw [lg_entry_eq]
  generalize (lg_sl ([.ref p0, .ref pd]) ++ List.replicate (3 - (lg_sl ([.ref p0, .ref pd])).length) Slot.unset).toArray = ls at hl ⊢
  have hl : lv_has ls 3 [(0, .ref p0), (1, .ref pd)] := hl
  refine lv_aload_n hx hb dL_busyShare_0 rfl (lv_at hl 1 rfl) ?_
  refine lv_iconst (v := 0) hx hb dL_busyShare_1 (by decide) ?_
  refine lv_aload_n hx hb dL_busyShare_2 rfl (lv_at hl 0 rfl) ?_
  refine vx_callf (vx_runV (As := []) (rest := [.int 0, .ref pd]) ⟨hx, hb, hml, hown, hts⟩ (cN_busyShare_no l hnt _ _ _ _ _ _ _ p0 hk0 aC hC hn9) (cwV 0 hts gL_busyShare_X8_busyShare rfl rfl rfl (by decide +kernel) ⟨Nat.le_of_ble_eq_true rfl, Nat.le_of_ble_eq_true rfl⟩) (z_preV hK hE hI [] rfl rfl (z_recv hK hI hk0 rfl rfl)) rfl rfl hl.1 rfl (lv_room (Nat.le_of_ble_eq_true rfl)) dL_busyShare_3 ⟨Nat.le_of_ble_eq_true rfl, Nat.le_of_ble_eq_true rfl⟩) hI.2.1 (fun q _ h => z_sub hI [] rfl rfl q h) (z_sub hI [] rfl rfl) (fun q _ h => z_sub hI [] rfl rfl q h) (fun E ce q9 u t H locs ht hvm _ hbx hz hk hS1 he1 he2 he3 => ?_) (fun r u t H locs ht hvm hw hB hz1 hk1 hS1 => hw.elim)
  have hI := z_back hI ht hbx.2 hS1
  obtain ⟨⟨rfl, rfl⟩, -⟩ := hbx
  refine vx_catch (name := "java/util/NoSuchElementException") hown [] ⟨0, 8, 11, 78⟩ [] htab (fun z hz => nomatch hz) (by decide) (by decide) (hts (.classLink RL 78 "java/util/NoSuchElementException") (by decide +kernel)) (va_Nw.use rfl (hE.1 (.castable "java/util/NoSuchElementException" "java/util/NoSuchElementException") (by decide +kernel) rfl)) he1 he2 he3 ?_
  show W p l e _ s m _ below meth c H locs _ _ _ (F0 m 11 ls [.ref q9])
  refine lv_astore_n (lv' := [(2, .ref q9), (0, .ref p0), (1, .ref pd)]) hx hb dL_busyShare_11 rfl hl (by decide) rfl (fun ls hl => ?_)
  refine lv_iconst (v := 1) hx hb dL_busyShare_12 (by decide) ?_
  refine vx_ret ?_
  exact W.iret (v := 1) hx hb hr (fun t ht hW => ⟨⟨_, (L, κ, g), rfl, ⟨rfl, rfl⟩, z_endG hK hI ht hW⟩, z_F hI ht⟩) (z_locs hI) dL_busyShare_13

set_option maxHeartbeats 4000000 in
set_option maxRecDepth 100000 in
theorem c_L_busyShare (l : Launch) (hnt : l.stackTraces = false) (D : va_G) (tc : Nat → ClassId) (z0 : Nat) (L : List Nat) (κ : Nat → Nat) (g : Nat → Nat → Value) (sz : Nat) (p0 : Nat) (hk0 : κ p0 = 10) (pd : Nat) (hkd : κ pd = 30) (aC : Nat) (hC : g p0 1 = .ref aC) (hs9 : ∃ j : Nat, j < 6 ∧ g aC j ≠ .null) : MetD lw_cs l yL_busyShare wsL_busyShare ({ frames := 2, cells := 0, slots := 0, locals := 51 }) (zPc D tc z0 [.ref p0, .ref pd] [] (L, κ, g) sz) (va_Qi (fun (r : Int32) (u : zS) => r = 0 ∧ u = (L, κ, g)) (fun (u : zS) (t : State) => zB D tc (zA [] L sz) [] u t) (zA [] L sz)) 0 0 (zA [] L sz) := by
  refine z_ofWHD (cc := cL_busyShare) (maxL := 3) (ret := (some .int)) (hh := [(0, 8, 11, 78)]) (by decide) rfl ?_
  intro p e s m args below meth c s₁ B hml hv hd0
  obtain ⟨rfl, rfl, hK, hE, hI⟩ := hv.opn
  have hts0 := atoms_spec (ws := wsL_busyShare) B.pre
  have hE0 := hE
  have hx := B.exec
  have hb := B.bytes
  have hr := B.returns
  have hts := atoms_spec (ws := wsL_busyShare) B.pre
  have hown : s.vm.findClass RL = some m.cls := findClass_of_methodNamed B.named
  have hlocks := B.notSynchronized
  have htab := vx_table (x := yL_busyShare) B (hts (.codeWith yL_busyShare cL_busyShare 3 (some .int) [(0, 8, 11, 78)]) List.mem_cons_self)
  have hM : zM p s m c cL_busyShare _ wsL_busyShare RL D tc := ⟨hx, hb, hts, hown, hK⟩
  have hl := lv_entry ([.ref p0, .ref pd]) (n := 3) (Nat.le_of_ble_eq_true rfl)
  rw [lg_entry_eq]
  generalize (lg_sl ([.ref p0, .ref pd]) ++ List.replicate (3 - (lg_sl ([.ref p0, .ref pd])).length) Slot.unset).toArray = ls at hl ⊢
  have hl : lv_has ls 3 [(0, .ref p0), (1, .ref pd)] := hl
  refine lv_aload_n hx hb dL_busyShare_0 rfl (lv_at hl 1 rfl) ?_
  refine lv_iconst (v := 0) hx hb dL_busyShare_1 (by decide) ?_
  refine lv_aload_n hx hb dL_busyShare_2 rfl (lv_at hl 0 rfl) ?_
  refine va_callfD hd0 (va_runV_D (As := []) (rest := [.int 0, .ref pd]) ⟨hx, hb, hml, hown, dr_words hts _⟩ (cN_busyShare l _ _ _ _ _ _ _ p0 hk0 aC hC hs9) (cwV 0 (dr_words hts _) gL_busyShare_X8_busyShare rfl rfl rfl (by decide +kernel) ⟨Nat.le_of_ble_eq_true rfl, Nat.le_of_ble_eq_true rfl⟩) (z_preV hK hE hI [] rfl rfl (z_recv hK hI hk0 rfl rfl)) rfl rfl hl.1 rfl (lv_room (Nat.le_of_ble_eq_true rfl)) dL_busyShare_3 ⟨Nat.le_of_ble_eq_true rfl, Nat.le_of_ble_eq_true rfl⟩) hI.2.1 (fun q _ h => z_sub hI [] rfl rfl q h) (z_sub hI [] rfl rfl) (fun r3 u t H locs ht hvm hw hB hz1 hk1 hS1 d3 hd3 => ?_)
  have hI := z_back hI ht hB hS1
  obtain rfl := hw
  have hts := dr_words hts0 d3
  have hE : zE z0 (zA [] L s.heap.size) (s.setDrawn d3) := hE0.next (locs := []) (State.WarmedH.refl s) va_S.rf (fun _ h => h)
  have hM : zM p (s.setDrawn d3) m c cL_busyShare _ wsL_busyShare RL D tc := ⟨hx, hb, hts, hown, hK⟩
  have hI : zI D tc (zA [] L s.heap.size) (s.setDrawn d3).heap [] L κ g _ _ := hI
  refine lv_f2d_any hd3 lw_bits hx hb dL_busyShare_6 (fun r4 d4 _ hd4 => ?_)
  have hts := dr_words hts0 d4
  have hE : zE z0 (zA [] L s.heap.size) (s.setDrawn d4) := hE0.next (locs := []) (State.WarmedH.refl s) va_S.rf (fun _ h => h)
  have hM : zM p (s.setDrawn d4) m c cL_busyShare _ wsL_busyShare RL D tc := ⟨hx, hb, hts, hown, hK⟩
  have hI : zI D tc (zA [] L s.heap.size) (s.setDrawn d4).heap [] L κ g _ _ := hI
  refine z_dast (g' := g) (k := 30) hM hI hkd rfl rfl (vp_in_c 0 1 (by decide)) ⟨_, rfl⟩ (fun _ _ _ => rfl) dL_busyShare_7 (fun H locs hI => ?_)
  refine lv_goto (tgt := 14) hx hb dL_busyShare_8 (by decide) ?_
  refine lv_iconst (v := 0) hx hb dL_busyShare_14 (by decide) ?_
  refine W.endD hd4 ?_
  exact W.iret (v := 0) hx hb hr (fun t ht hW => ⟨⟨_, (L, κ, g), rfl, ⟨rfl, rfl⟩, z_end hK hI ht hW⟩, z_F hI ht⟩) (z_locs hI) dL_busyShare_15

set_option maxHeartbeats 4000000 in
set_option maxRecDepth 100000 in
theorem c_L_meanDegrees_no (l : Launch) (hnt : l.stackTraces = false) (D : va_G) (tc : Nat → ClassId) (z0 : Nat) (L : List Nat) (κ : Nat → Nat) (g : Nat → Nat → Value) (sz : Nat) (p0 : Nat) (hk0 : κ p0 = 10) (pd : Nat) (hkd : κ pd = 30) (aC : Nat) (hC : g p0 1 = .ref aC) (hn9 : ∀ j : Nat, j < 6 → g aC j = .null) : vx_Met l yL_meanDegrees wsL_meanDegrees ({ frames := 7, cells := 1, slots := 6, locals := 123 }) (zPc D tc z0 [.ref p0, .ref pd] [] (L, κ, g) sz) (va_Qi (fun (r : Int32) (u : zS) => r = 1 ∧ u = (L, κ, g)) (fun (u : zS) (t : State) => zB D tc (zA [] L sz) [] u t) (zA [] L sz)) (vx_X (fun u : zS => True) (fun (E : String) (u : zS) (t : State) => (False) ∧ zB D tc (zA [] L sz) [] u t) (zA [] L sz)) 1 6 (zA [] L sz) := by
  refine vx_ofWH (cc := cL_meanDegrees) (maxL := 3) (ret := (some .int)) (hh := [(0, 7, 10, 78)]) (by decide) rfl ?_
  intro p e s m args below meth c s₁ B hml hv
  obtain ⟨rfl, rfl, hK, hE, hI⟩ := hv.opn
  have hx := B.exec
  have hb := B.bytes
  have hr := B.returns
  have hts := atoms_spec (ws := wsL_meanDegrees) B.pre
  have hown : s.vm.findClass RL = some m.cls := findClass_of_methodNamed B.named
  have hlocks := B.notSynchronized
  have htab := vx_table (x := yL_meanDegrees) B (hts (.codeWith yL_meanDegrees cL_meanDegrees 3 (some .int) [(0, 7, 10, 78)]) List.mem_cons_self)
  have hM : zM p s m c cL_meanDegrees _ wsL_meanDegrees RL D tc := ⟨hx, hb, hts, hown, hK⟩
  have hl := lv_entry ([.ref p0, .ref pd]) (n := 3) (Nat.le_of_ble_eq_true rfl)
  rw [lg_entry_eq]
  generalize (lg_sl ([.ref p0, .ref pd]) ++ List.replicate (3 - (lg_sl ([.ref p0, .ref pd])).length) Slot.unset).toArray = ls at hl ⊢
  have hl : lv_has ls 3 [(0, .ref p0), (1, .ref pd)] := hl
  refine lv_aload_n hx hb dL_meanDegrees_0 rfl (lv_at hl 1 rfl) ?_
  refine lv_iconst (v := 0) hx hb dL_meanDegrees_1 (by decide) ?_
  refine lv_aload_n hx hb dL_meanDegrees_2 rfl (lv_at hl 0 rfl) ?_
  refine vx_calld (vx_runV (As := []) (rest := [.int 0, .ref pd]) ⟨hx, hb, hml, hown, hts⟩ (cN_meanDegrees_no l hnt _ _ _ _ _ _ _ p0 hk0 aC hC hn9) (cwV 0 hts gL_meanDegrees_X8_meanDegrees rfl rfl rfl (by decide +kernel) ⟨Nat.le_of_ble_eq_true rfl, Nat.le_of_ble_eq_true rfl⟩) (z_preV hK hE hI [] rfl rfl (z_recv hK hI hk0 rfl rfl)) rfl rfl hl.1 rfl (lv_room (Nat.le_of_ble_eq_true rfl)) dL_meanDegrees_3 ⟨Nat.le_of_ble_eq_true rfl, Nat.le_of_ble_eq_true rfl⟩) hI.2.1 (fun q _ h => z_sub hI [] rfl rfl q h) (z_sub hI [] rfl rfl) (fun q _ h => z_sub hI [] rfl rfl q h) (fun E ce q9 u t H locs ht hvm _ hbx hz hk hS1 he1 he2 he3 => ?_) (fun r u t H locs ht hvm hw hB hz1 hk1 hS1 => hw.elim)
  have hI := z_back hI ht hbx.2 hS1
  obtain ⟨⟨rfl, rfl⟩, -⟩ := hbx
  refine vx_catch (name := "java/util/NoSuchElementException") hown [] ⟨0, 7, 10, 78⟩ [] htab (fun z hz => nomatch hz) (by decide) (by decide) (hts (.classLink RL 78 "java/util/NoSuchElementException") (by decide +kernel)) (va_Nw.use rfl (hE.1 (.castable "java/util/NoSuchElementException" "java/util/NoSuchElementException") (by decide +kernel) rfl)) he1 he2 he3 ?_
  show W p l e _ s m _ below meth c H locs _ _ _ (F0 m 10 ls [.ref q9])
  refine lv_astore_n (lv' := [(2, .ref q9), (0, .ref p0), (1, .ref pd)]) hx hb dL_meanDegrees_10 rfl hl (by decide) rfl (fun ls hl => ?_)
  refine lv_iconst (v := 1) hx hb dL_meanDegrees_11 (by decide) ?_
  refine vx_ret ?_
  exact W.iret (v := 1) hx hb hr (fun t ht hW => ⟨⟨_, (L, κ, g), rfl, ⟨rfl, rfl⟩, z_endG hK hI ht hW⟩, z_F hI ht⟩) (z_locs hI) dL_meanDegrees_12

set_option maxHeartbeats 4000000 in
set_option maxRecDepth 100000 in
theorem c_L_meanDegrees (l : Launch) (hnt : l.stackTraces = false) (D : va_G) (tc : Nat → ClassId) (z0 : Nat) (L : List Nat) (κ : Nat → Nat) (g : Nat → Nat → Value) (sz : Nat) (p0 : Nat) (hk0 : κ p0 = 10) (pd : Nat) (hkd : κ pd = 30) (aC : Nat) (hC : g p0 1 = .ref aC) (hs9 : ∃ j : Nat, j < 6 ∧ g aC j ≠ .null) : MetD lw_cs l yL_meanDegrees wsL_meanDegrees ({ frames := 4, cells := 0, slots := 0, locals := 95 }) (zPc D tc z0 [.ref p0, .ref pd] [] (L, κ, g) sz) (va_Qi (fun (r : Int32) (u : zS) => r = 0 ∧ u = (L, κ, g)) (fun (u : zS) (t : State) => zB D tc (zA [] L sz) [] u t) (zA [] L sz)) 0 0 (zA [] L sz) := by
  refine z_ofWHD (cc := cL_meanDegrees) (maxL := 3) (ret := (some .int)) (hh := [(0, 7, 10, 78)]) (by decide) rfl ?_
  intro p e s m args below meth c s₁ B hml hv hd0
  obtain ⟨rfl, rfl, hK, hE, hI⟩ := hv.opn
  have hts0 := atoms_spec (ws := wsL_meanDegrees) B.pre
  have hE0 := hE
  have hx := B.exec
  have hb := B.bytes
  have hr := B.returns
  have hts := atoms_spec (ws := wsL_meanDegrees) B.pre
  have hown : s.vm.findClass RL = some m.cls := findClass_of_methodNamed B.named
  have hlocks := B.notSynchronized
  have htab := vx_table (x := yL_meanDegrees) B (hts (.codeWith yL_meanDegrees cL_meanDegrees 3 (some .int) [(0, 7, 10, 78)]) List.mem_cons_self)
  have hM : zM p s m c cL_meanDegrees _ wsL_meanDegrees RL D tc := ⟨hx, hb, hts, hown, hK⟩
  have hl := lv_entry ([.ref p0, .ref pd]) (n := 3) (Nat.le_of_ble_eq_true rfl)
  rw [lg_entry_eq]
  generalize (lg_sl ([.ref p0, .ref pd]) ++ List.replicate (3 - (lg_sl ([.ref p0, .ref pd])).length) Slot.unset).toArray = ls at hl ⊢
  have hl : lv_has ls 3 [(0, .ref p0), (1, .ref pd)] := hl
  refine lv_aload_n hx hb dL_meanDegrees_0 rfl (lv_at hl 1 rfl) ?_
  refine lv_iconst (v := 0) hx hb dL_meanDegrees_1 (by decide) ?_
  refine lv_aload_n hx hb dL_meanDegrees_2 rfl (lv_at hl 0 rfl) ?_
  refine va_calldD hd0 (va_runV_D (As := []) (rest := [.int 0, .ref pd]) ⟨hx, hb, hml, hown, dr_words hts _⟩ (cN_meanDegrees l _ _ _ _ _ _ _ p0 hk0 aC hC hs9) (cwV 0 (dr_words hts _) gL_meanDegrees_X8_meanDegrees rfl rfl rfl (by decide +kernel) ⟨Nat.le_of_ble_eq_true rfl, Nat.le_of_ble_eq_true rfl⟩) (z_preV hK hE hI [] rfl rfl (z_recv hK hI hk0 rfl rfl)) rfl rfl hl.1 rfl (lv_room (Nat.le_of_ble_eq_true rfl)) dL_meanDegrees_3 ⟨Nat.le_of_ble_eq_true rfl, Nat.le_of_ble_eq_true rfl⟩) hI.2.1 (fun q _ h => z_sub hI [] rfl rfl q h) (z_sub hI [] rfl rfl) (fun r3 u t H locs ht hvm hw hB hz1 hk1 hS1 d3 hd3 => ?_)
  have hI := z_back hI ht hB hS1
  obtain rfl := hw
  have hts := dr_words hts0 d3
  have hE : zE z0 (zA [] L s.heap.size) (s.setDrawn d3) := hE0.next (locs := []) (State.WarmedH.refl s) va_S.rf (fun _ h => h)
  have hM : zM p (s.setDrawn d3) m c cL_meanDegrees _ wsL_meanDegrees RL D tc := ⟨hx, hb, hts, hown, hK⟩
  have hI : zI D tc (zA [] L s.heap.size) (s.setDrawn d3).heap [] L κ g _ _ := hI
  refine z_dast (g' := g) (k := 30) hM hI hkd rfl rfl (vp_in_c 0 1 (by decide)) ⟨_, rfl⟩ (fun _ _ _ => rfl) dL_meanDegrees_6 (fun H locs hI => ?_)
  refine lv_goto (tgt := 13) hx hb dL_meanDegrees_7 (by decide) ?_
  refine lv_iconst (v := 0) hx hb dL_meanDegrees_13 (by decide) ?_
  refine W.endD hd3 ?_
  exact W.iret (v := 0) hx hb hr (fun t ht hW => ⟨⟨_, (L, κ, g), rfl, ⟨rfl, rfl⟩, z_end hK hI ht hW⟩, z_F hI ht⟩) (z_locs hI) dL_meanDegrees_14

