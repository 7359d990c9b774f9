theorem zN_0 : decode prog_42_method_4_code 0 = .ok (.aload_n 0, 1) := by decide +kernel
theorem zN_1 : decode prog_42_method_4_code 1 = .ok (.aload_n 1, 1) := by decide +kernel
theorem zN_2 : decode prog_42_method_4_code 2 = .ok (.invokespecial 13, 3) := by decide +kernel
theorem zN_5 : decode prog_42_method_4_code 5 = .ok (.return_, 1) := by decide +kernel
def wsN_sensor : List Cond := .code yX8_sensor cX8_sensor 3 (some .int) :: ([.classLink RX8 190 "java/util/NoSuchElementException", .initialized "java/util/NoSuchElementException", .fieldLink RX8 186 "Wattgovern$Core" "sensorLost" "Z", .fieldLink RX8 195 "Wattgovern$Core" "sensorTells" "I", .methodLink RX8 86 yX8_coreAt, .instanceMethod yX8_coreAt, .selects RX8 yX8_coreAt yX8_coreAt, .initialized RX8, .code yX8_coreAt cX8_coreAt 3 (some (.object "Wattgovern$Core")), .classLink RX8 305 "java/lang/IndexOutOfBoundsException", .initialized "java/lang/IndexOutOfBoundsException", .fieldLink RX8 17 "Wattgovern" "cores" "[LWattgovern$Core;"] ++ wsX30 ++ wsX80 ++ (z_atX RX8 194 "java/util/NoSuchElementException" 13 prog_42_method_4_code "java/lang/RuntimeException" ["java/lang/Exception"]).filter goodWord ++ (vx_atS RX8 309 "java/lang/IndexOutOfBoundsException" ["java/lang/RuntimeException", "java/lang/Exception"]).filter goodWord)
def wsN_busyShare : List Cond := .code yX8_busyShare cX8_busyShare 7 (some .float) :: ([.classLink RX8 190 "java/util/NoSuchElementException", .initialized "java/util/NoSuchElementException", .fieldLink RX8 17 "Wattgovern" "cores" "[LWattgovern$Core;", .fieldLink RX8 289 "Wattgovern$Core" "number" "I", .methodLink RX8 151 yX8_runningOn, .instanceMethod yX8_runningOn, .selects RX8 yX8_runningOn yX8_runningOn, .initialized RX8, .code yX8_runningOn cX8_runningOn 6 (some (.object "Wattgovern$Task")), .fieldLink RX8 23 "Wattgovern" "tasks" "[LWattgovern$Task;", .fieldLink RX8 112 "Wattgovern$Task" "core" "I", .fieldLink RX8 106 "Wattgovern$Task" "left" "I"] ++ wsX80 ++ wsX30 ++ wsX70 ++ (z_atX RX8 194 "java/util/NoSuchElementException" 13 prog_42_method_4_code "java/lang/RuntimeException" ["java/lang/Exception"]).filter goodWord)
def wsN_meanDegrees : List Cond := .code yX8_meanDegrees cX8_meanDegrees 6 (some .double) :: ((wsX8_meanDegrees_r1 ++ wsX8_meanDegrees_r2) ++ wsX80 ++ wsX30 ++ wsX10 ++ wsX00 ++ (z_atX RX8 194 "java/util/NoSuchElementException" 13 prog_42_method_4_code "java/lang/RuntimeException" ["java/lang/Exception"]).filter goodWord)
set_option maxRecDepth 20000 in
theorem ggN_sensor_X8_coreAt : GoodIn wsN_sensor wsX8_coreAt := goodIn_ca (goodIn_r _ [9, 10, 11, 12, 33, 34, 35, 36, 37, 38, 39, 40, 41, 42] (by decide +kernel) (by decide +kernel)) (goodIn_sub (fun _ h => List.mem_cons_of_mem _ (List.mem_append_right _ h)) (by decide +kernel))
set_option maxRecDepth 20000 in
theorem gN_sensor_X8_coreAt : GoodIn wsN_sensor (wsV RX8 86 RX8 yX8_coreAt wsX8_coreAt) := goodIn_app (goodIn_of _ (by decide +kernel)) ggN_sensor_X8_coreAt
set_option maxRecDepth 20000 in
theorem ggN_busyShare_X8_runningOn : GoodIn wsN_busyShare wsX8_runningOn := goodIn_r _ [9, 10, 11, 12, 13, 14, 15, 16, 17, 18, 19, 20, 21, 22, 43, 44, 45, 46] (by decide +kernel) (by decide +kernel)
set_option maxRecDepth 20000 in
theorem gN_busyShare_X8_runningOn : GoodIn wsN_busyShare (wsV RX8 151 RX8 yX8_runningOn wsX8_runningOn) := goodIn_app (goodIn_of _ (by decide +kernel)) ggN_busyShare_X8_runningOn
set_option maxRecDepth 20000 in
theorem ggN_meanDegrees_X0_become : GoodIn wsN_meanDegrees wsX0_become := goodIn_r _ [11, 12, 13, 14, 15, 16, 10, 17, 18, 19, 20, 21, 22, 23, 24, 25, 26, 27, 28, 78, 79] (by decide +kernel) (by decide +kernel)
set_option maxRecDepth 20000 in
theorem gN_meanDegrees_X0_become : GoodIn wsN_meanDegrees (wsV RX8 212 RX0 yX0_become wsX0_become) := goodIn_app (goodIn_of _ (by decide +kernel)) ggN_meanDegrees_X0_become
set_option maxRecDepth 20000 in
theorem ggN_meanDegrees_X0_add : GoodIn wsN_meanDegrees wsX0_add := goodIn_r _ [32, 12, 33, 13, 14, 15, 16, 10, 17, 18, 19, 20, 21, 22, 23, 24, 34, 35, 36, 37, 25, 26, 27, 28, 78, 79] (by decide +kernel) (by decide +kernel)
set_option maxRecDepth 20000 in
theorem gN_meanDegrees_X0_add : GoodIn wsN_meanDegrees (wsV RX8 294 RX0 yX0_add wsX0_add) := goodIn_app (goodIn_of _ (by decide +kernel)) ggN_meanDegrees_X0_add
set_option maxRecDepth 20000 in
theorem ggN_meanDegrees_X0_toDouble : GoodIn wsN_meanDegrees wsX0_toDouble := goodIn_r _ [41, 12, 42, 43, 44, 14, 15, 16, 10, 17, 13, 18, 19, 20, 21, 22, 23, 24, 78, 79] (by decide +kernel) (by decide +kernel)
set_option maxRecDepth 20000 in
theorem gN_meanDegrees_X0_toDouble : GoodIn wsN_meanDegrees (wsV RX8 297 RX0 yX0_toDouble wsX0_toDouble) := goodIn_app (goodIn_of _ (by decide +kernel)) ggN_meanDegrees_X0_toDouble
set_option maxHeartbeats 4000000 in
set_option maxRecDepth 100000 in
theorem cN_sensor (l : Launch) (hnt : l.stackTraces = false) (D : va_G) (tc : Nat → ClassId) (z0 : Nat) (L : List Nat) (κ : Nat → Nat) (g : Nat → Nat → Value) (sz : Nat) (p0 : Nat) (hk0 : κ p0 = 10) (p1 : Int32) (aC : Nat) (hC : g p0 1 = .ref aC) : vx_Met l yX8_sensor wsN_sensor ({ frames := 7, cells := 2, slots := 12, locals := 120 }) (zPc D tc z0 [.ref p0, .int p1] [] (L, κ, g) sz) (va_Qi (fun (r : Int32) (u : zS) => zHas g aC 6 p1 ∧ u = (L, κ, g)) (fun (u : zS) (t : State) => zB D tc (zA [] L sz) [] u t) (zA [] L sz)) (vx_X (fun u : zS => True) (fun (E : String) (u : zS) (t : State) => (((E = "java/lang/IndexOutOfBoundsException" ∧ ¬ zHas g aC 6 p1) ∨ (E = "java/util/NoSuchElementException")) ∧ u = (L, κ, g)) ∧ zB D tc (zA [] L sz) [] u t) (zA [] L sz)) 2 12 (zA [] L sz) := by
  refine vx_ofW (cc := cX8_sensor) (maxL := 3) (ret := (some .int)) (by decide) rfl ?_
  intro p e s m args below meth c s₁ B hml hxt hv
  obtain ⟨rfl, rfl, hK, hE, hI⟩ := hv.opn
  have hx := B.exec
  have hb := B.bytes
  have hr := B.returns
  have hts := atoms_spec (ws := wsN_sensor) B.pre
  have hown : s.vm.findClass RX8 = some m.cls := findClass_of_methodNamed B.named
  have hlocks := B.notSynchronized
  have hout : ∀ (i : Nat), ∀ x ∈ c.exceptionTable.toList, covers x i = false := fun i x hx9 => (hxt x hx9).elim
  have hM : zM p s m c cX8_sensor _ wsN_sensor RX8 D tc := ⟨hx, hb, hts, hown, hK⟩
  have hinX3 : ∀ w ∈ wsX30, w ∈ wsN_sensor := by decide +kernel
  have hl := lv_entry ([.ref p0, .int p1]) (n := 3) (Nat.le_of_ble_eq_true rfl)
  rw [lg_entry_eq]
  generalize (lg_sl ([.ref p0, .int p1]) ++ List.replicate (3 - (lg_sl ([.ref p0, .int p1])).length) Slot.unset).toArray = ls at hl ⊢
  have hl : lv_has ls 3 [(0, .ref p0), (1, .int p1)] := hl
  refine lv_aload_n hx hb dX8_sensor_0 rfl (lv_at hl 0 rfl) ?_
  refine lv_iload_n hx hb dX8_sensor_1 rfl (lv_at hl 1 rfl) ?_
  refine z_xq hI (vx_runV (As := [.int p1]) (rest := []) ⟨hx, hb, hml, hown, hts⟩ (c_X8_coreAt l hnt _ _ _ _ _ _ _ p0 hk0 p1 aC hC) (cwV 1 hts gN_sensor_X8_coreAt rfl rfl rfl (by decide +kernel) ⟨Nat.le_of_ble_eq_true rfl, Nat.le_of_ble_eq_true rfl⟩) (z_preV hK hE hI [] rfl rfl (z_recv hK hI hk0 rfl rfl)) rfl rfl hl.1 rfl (lv_room (Nat.le_of_ble_eq_true rfl)) dX8_sensor_2 ⟨Nat.le_of_ble_eq_true rfl, Nat.le_of_ble_eq_true rfl⟩) (fun E ce q9 u H locs hw hI he1 he2 he3 => ?_) (fun v1 u H locs hw2 hI => ?_)
  · obtain ⟨hxp, rfl⟩ := hw
    exact z_pass hK hI hout hlocks he1 he2 he3 (by first | exact ⟨hxp, rfl⟩ | exact ⟨Or.inl hxp, rfl⟩ | exact ⟨Or.inr hxp, rfl⟩ | exact ⟨Or.inr (Or.inl hxp), rfl⟩ | exact ⟨Or.inr (Or.inr hxp), rfl⟩) (Nat.le_of_ble_eq_true rfl) (Nat.le_of_ble_eq_true rfl)
  obtain ⟨r3, rfl, hr4, hq5, rfl⟩ := hw2
  show W p l e (headSpec wsN_sensor ({ frames := 7, cells := 2, slots := 12, locals := 120 })).room s m ([.ref p0, .int p1] : List Value).toArray below meth c _ _ 1 6 (vx_MQ below (va_Qi (fun (r : Int32) (u : zS) => zHas g aC 6 p1 ∧ u = (L, κ, g)) (fun (u : zS) (t : State) => zB D tc (zA [] L s.heap.size) [] u t) (zA [] L s.heap.size)) (vx_X (fun u : zS => True) (fun (E : String) (u : zS) (t : State) => (((E = "java/lang/IndexOutOfBoundsException" ∧ ¬ zHas g aC 6 p1) ∨ (E = "java/util/NoSuchElementException")) ∧ u = (L, κ, g)) ∧ zB D tc (zA [] L s.heap.size) [] u t) (zA [] L s.heap.size)) ([.ref p0, .int p1] : List Value).toArray s 2 12 (zA [] L s.heap.size)) (F0 m 5 ls (.ref r3 :: []))
  refine lv_astore_n (lv' := [(2, .ref r3), (0, .ref p0), (1, .int p1)]) hx hb dX8_sensor_5 rfl hl (by decide) rfl (fun ls hl => ?_)
  refine lv_aload_n hx hb dX8_sensor_6 rfl (lv_at hl 0 rfl) ?_
  refine z_get (k := 5) (j := 17) hM hI hr4 rfl rfl hinX3 rfl (by decide) (by decide +kernel) (fun _ h9 => h9) dX8_sensor_7 (fun v6 hv7 => ?_)
  obtain ⟨hg9, i8, rfl, hz10⟩ := zv_tb hv7
  refine lv_if_eq (tgt := 23) hx hb dX8_sensor_10 (by decide) (fun c11 => ?_) (fun c11 => ?_)
  · skip
    refine lv_aload_n hx hb dX8_sensor_23 rfl (lv_at hl 0 rfl) ?_
    refine z_get (k := 5) (j := 16) hM hI hr4 rfl rfl hinX3 rfl (by decide) (by decide +kernel) (fun _ h9 => h9) dX8_sensor_24 (fun v12 hv13 => ?_)
    obtain ⟨i14, rfl⟩ := hv13
    refine vx_ret ?_
    refine W.widen (k := 2) (n := 12) (Nat.le_of_ble_eq_true rfl) (Nat.le_of_ble_eq_true rfl) ?_
    exact W.iret (v := i14) hx hb hr (fun t ht hW => ⟨⟨_, (L, κ, g), rfl, ⟨⟨hq5.1, _, hq5.2⟩, rfl⟩, z_end hK hI ht hW⟩, z_F hI ht⟩) (z_locs hI) dX8_sensor_27
  · skip
    refine z_throwX (ik := 190) (is := 192) (ic := 194) (E := "java/util/NoSuchElementException") (text := "the sensor is lost") (ix := 13) (n := 6) (rx := prog_42_method_4_code) (Y := "java/lang/RuntimeException") (L0 := L) ["java/lang/Exception"] (by decide) (by decide) zN_0 zN_1 zN_2 zN_5 hM hE hI hnt (by decide) (by decide +kernel) (by decide +kernel) (by decide +kernel) (by decide +kernel) (by decide +kernel) (by decide +kernel) (hl.1.trans hml.symm) dX8_sensor_13 dX8_sensor_16 (Or.inl ⟨dX8_sensor_17, rfl⟩) dX8_sensor_19 dX8_sensor_22 hout (Nat.le_of_ble_eq_true rfl) (Nat.le_of_ble_eq_true rfl) (Nat.le_of_ble_eq_true rfl) (Nat.le_of_ble_eq_true rfl) hlocks ⟨Or.inr rfl, rfl⟩ (Nat.le_of_ble_eq_true rfl) (Nat.le_of_ble_eq_true rfl)

set_option maxHeartbeats 4000000 in
set_option maxRecDepth 100000 in
theorem cN_busyShare (l : Launch) (D : va_G) (tc : Nat → ClassId) (z0 : Nat) (L : List Nat) (κ : Nat → Nat) (g : Nat → Nat → Value) (sz : Nat) (p0 : Nat) (hk0 : κ p0 = 10) (aC : Nat) (hC : g p0 1 = .ref aC) (hs9 : ∃ j : Nat, j < 6 ∧ g aC j ≠ .null) : MetD lw_cs l yX8_busyShare wsN_busyShare ({ frames := 1, cells := 0, slots := 0, locals := 25 }) (zPc D tc z0 [.ref p0] [] (L, κ, g) sz) (va_Qf (fun (r : UInt32) (u : zS) => u = (L, κ, g)) (fun (u : zS) (t : State) => zB D tc (zA [] L sz) [] u t) (zA [] L sz)) 0 0 (zA [] L sz) := by
  refine MetD.ofW (cc := cX8_busyShare) (maxL := 7) (ret := (some .float)) (by decide) rfl ?_
  intro p e s m args below meth c s₁ B hml hv hd0
  obtain ⟨rfl, rfl, hK, hE, hI⟩ := hv.opn
  show W p l e _ s m _ below meth c s.heap [] 0 0 _ _
  have hx := B.exec
  have hb := B.bytes
  have hr := B.returns
  have hts := atoms_spec (ws := wsN_busyShare) B.pre
  have hts0 := hts
  have hE0 := hE
  have hown : s.vm.findClass RX8 = some m.cls := findClass_of_methodNamed B.named
  have hlocks := B.notSynchronized
  have hM : zM p s m c cX8_busyShare _ wsN_busyShare RX8 D tc := ⟨hx, hb, hts, hown, hK⟩
  have hinX8 : ∀ w ∈ wsX80, w ∈ wsN_busyShare := by decide +kernel
  have hinX3 : ∀ w ∈ wsX30, w ∈ wsN_busyShare := by decide +kernel
  have hl := lv_entry ([.ref p0]) (n := 7) (Nat.le_of_ble_eq_true rfl)
  rw [lg_entry_eq]
  generalize (lg_sl ([.ref p0]) ++ List.replicate (7 - (lg_sl ([.ref p0])).length) Slot.unset).toArray = ls at hl ⊢
  have hl : lv_has ls 7 [(0, .ref p0)] := hl
  refine lv_iconst (v := 0) hx hb dX8_busyShare_0 (by decide) ?_
  refine lv_istore_n (lv' := [(1, .int 0), (0, .ref p0)]) hx hb dX8_busyShare_1 rfl hl (by decide) rfl (fun ls hl => ?_)
  refine lv_iconst (v := 0) hx hb dX8_busyShare_2 (by decide) ?_
  refine lv_istore_n (lv' := [(2, .int 0), (1, .int 0), (0, .ref p0)]) hx hb dX8_busyShare_3 rfl hl (by decide) rfl (fun ls hl => ?_)
  refine lv_aload_n hx hb dX8_busyShare_4 rfl (lv_at hl 2 rfl) ?_
  refine z_get (k := 10) (j := 1) hM hI hk0 rfl rfl hinX8 rfl (by decide) (by decide +kernel) (fun _ h9 => h9) dX8_busyShare_5 (fun v1 hv2 => ?_)
  obtain ⟨hg4, i3, rfl, hr5⟩ := hv2
  obtain rfl : aC = i3 := Value.ref.inj ((hC).symm.trans hg4.symm)
  refine lv_astore_n (lv' := [(3, .ref aC), (2, .int 0), (1, .int 0), (0, .ref p0)]) hx hb dX8_busyShare_8 rfl hl (by decide) rfl (fun ls hl => ?_)
  refine lv_aload_n hx hb dX8_busyShare_9 rfl (lv_at hl 0 rfl) ?_
  refine z_alen (v := 6) hM hI hr5 rfl rfl rfl (by decide) dX8_busyShare_10 ?_
  refine lv_istore (lv' := [(4, .int 6), (3, .ref aC), (2, .int 0), (1, .int 0), (0, .ref p0)]) hx hb dX8_busyShare_11 hl (by decide) rfl (fun ls hl => ?_)
  refine lv_iconst (v := 0) hx hb dX8_busyShare_13 (by decide) ?_
  refine lv_istore (lv' := [(5, .int 0), (4, .int 6), (3, .ref aC), (2, .int 0), (1, .int 0), (0, .ref p0)]) hx hb dX8_busyShare_14 hl (by decide) rfl (fun ls hl => ?_)
  have hL16 : ∀ (n : Nat) (H : Heap) (locs : List Loc) (x6 : Int32) (x7 : Int32)  (i8 : Nat) (hi : i8 ≤ 6) (hn : 6 - i8 < n)  (hcnt : ∃ k : Nat, x7 = nI k ∧ k ≤ i8 ∧ (k = 0 → ∀ j : Nat, j < i8 → g aC j = .null)) (hI : zI D tc (zA [] L s.heap.size) s.heap [] L κ g H locs) (ls : Array Slot) (hl : lv_has ls 7 [(4, .int 6), (3, .ref aC), (2, .int x6), (1, .int x7), (0, .ref p0), (5, .int ((nI i8)))]), W p l e (headSpec wsN_busyShare ({ frames := 1, cells := 0, slots := 0, locals := 25 })).room s m ([.ref p0] : List Value).toArray below meth c H locs 0 0 (MQD lw_cs below (va_Qf (fun (r : UInt32) (u : zS) => u = (L, κ, g)) (fun (u : zS) (t : State) => zB D tc (zA [] L s.heap.size) [] u t) (zA [] L s.heap.size)) ([.ref p0] : List Value).toArray s 0 0 (zA [] L s.heap.size)) (F0 m 16 ls []) := by
    intro n
    induction n with
    | zero => intro H locs x6 x7 i8 hi hn hcnt hI ls hl; exact absurd hn (Nat.not_lt_zero _)
    | succ n ih =>
      intro H locs x6 x7 i8 hi hn hcnt hI ls hl
      refine lv_iload hx hb dX8_busyShare_16 (lv_at hl 5 rfl) ?_
      refine lv_iload hx hb dX8_busyShare_18 (lv_at hl 0 rfl) ?_
      refine lv_icmp_ge (tgt := 63) hx hb dX8_busyShare_20 (by decide) (fun c9 => ?_) (fun c9 => ?_)
      · skip
        have hgec9 : 6 ≤ i8 := z_ge (by omega) (by omega) c9
        refine lv_iload_n hx hb dX8_busyShare_63 rfl (lv_at hl 3 rfl) ?_
        refine lv_if_ne (tgt := 78) hx hb dX8_busyShare_64 (by decide) (fun c10 => ?_) (fun c10 => ?_)
        · skip
          refine lv_iload_n hx hb dX8_busyShare_78 rfl (lv_at hl 2 rfl) ?_
          refine lv_i2f hx hb dX8_busyShare_79 ?_
          refine lv_topf (fun v11 e12 => ?_)
          refine lv_iload_n hx hb dX8_busyShare_80 rfl (lv_at hl 3 rfl) ?_
          refine lv_i2f hx hb dX8_busyShare_81 ?_
          refine lv_topf (fun v13 e14 => ?_)
          refine W.base ?_
          refine lv_fdiv_any hd0 lw_bits hx hb dX8_busyShare_82 (fun r15 d16 _ hd17 => ?_)
          have hts := dr_words hts0 d16
          have hK : va_K D vwCl (zTy tc) (s.setDrawn d16) := hK
          have hE : zE z0 (zA [] L s.heap.size) (s.setDrawn d16) := hE0.next (locs := []) (State.WarmedH.refl s) va_S.rf (fun _ h => h)
          have hown : (s.setDrawn d16).vm.findClass RX8 = some m.cls := hown
          have hM : zM p (s.setDrawn d16) m c cX8_busyShare _ wsN_busyShare RX8 D tc := ⟨hx, hb, hts, hown, hK⟩
          have hI : zI D tc (zA [] L s.heap.size) (s.setDrawn d16).heap [] L κ g _ _ := hI
          refine W.endD hd17 ?_
          exact W.fret (v := r15) hx hb hr (fun t ht hW => ⟨⟨_, (L, κ, g), rfl, rfl, z_end hK hI ht hW⟩, z_F hI ht⟩) (z_locs hI) dX8_busyShare_83
        · skip
          exact absurd c10 (z_cntE hcnt (by omega) (by omega) hs9)
      · skip
        have hltc9 : i8 < 6 := z_lt (by omega) c9
        refine lv_aload_n hx hb dX8_busyShare_23 rfl (lv_at hl 1 rfl) ?_
        refine lv_iload hx hb dX8_busyShare_24 (lv_at hl 5 rfl) ?_
        refine z_aald hM hI hr5 rfl rfl rfl (vp_in_nI (by omega) (by omega)) dX8_busyShare_26 (fun x18 hv19 => ?_)
        obtain ⟨hghv19, hn22 | ⟨r20, hn22, hr21⟩⟩ := hv19
        · rw [hn22]
          rw [hn22] at hghv19
          refine lv_astoreN (lv' := [(6, .null), (4, .int 6), (3, .ref aC), (2, .int x6), (1, .int x7), (0, .ref p0), (5, .int ((nI i8)))]) hx hb dX8_busyShare_27 hl (by decide) rfl (fun ls hl => ?_)
          refine lv_aloadN hx hb dX8_busyShare_29 (lv_at hl 0 rfl) ?_
          refine lv_ifnullN (tgt := 57) hx hb dX8_busyShare_31 (by decide) ?_
          refine lv_iinc (v := nI (i8 + 1)) (lv' := [(5, .int ((nI (i8 + 1)))), (6, .null), (4, .int 6), (3, .ref aC), (2, .int x6), (1, .int x7), (0, .ref p0)]) hx hb dX8_busyShare_57 hl (k := 6) rfl (z_inc i8) (by decide) rfl (fun ls hl => ?_)
          refine lv_goto (tgt := 16) hx hb dX8_busyShare_60 (by decide) ?_
          exact ih _ _ x6 x7 (i8 + 1) (by first | omega | (simp only [] at *; omega)) (by first | omega | (simp only [] at *; omega)) (by first | exact ⟨0, rfl, Nat.le_refl _, fun _ j hj => absurd hj (Nat.not_lt_zero _)⟩ | exact z_cnt0 hcnt (z_nl (by omega) (by assumption)) | exact z_cnt1 hcnt (by assumption)) hI ls (lv_sub hl [2, 3, 4, 5, 6, 0] rfl)
        · rw [hn22]
          rw [hn22] at hghv19
          refine lv_astore (lv' := [(6, .ref r20), (4, .int 6), (3, .ref aC), (2, .int x6), (1, .int x7), (0, .ref p0), (5, .int ((nI i8)))]) hx hb dX8_busyShare_27 hl (by decide) rfl (fun ls hl => ?_)
          refine lv_aload hx hb dX8_busyShare_29 (lv_at hl 0 rfl) ?_
          refine lv_ifnull hx hb dX8_busyShare_31 ?_
          obtain ⟨v23, e24⟩ : ∃ y : Int32, y = x7 + Int32.ofInt (1) := ⟨_, rfl⟩
          refine lv_iinc (v := v23) (lv' := [(1, .int v23), (6, .ref r20), (4, .int 6), (3, .ref aC), (2, .int x6), (0, .ref p0), (5, .int ((nI i8)))]) hx hb dX8_busyShare_34 hl (k := 4) rfl e24.symm (by decide) rfl (fun ls hl => ?_)
          refine lv_iload_n hx hb dX8_busyShare_37 rfl (lv_at hl 4 rfl) ?_
          refine lv_aload_n hx hb dX8_busyShare_38 rfl (lv_at hl 5 rfl) ?_
          refine lv_aload hx hb dX8_busyShare_39 (lv_at hl 1 rfl) ?_
          refine z_get (k := 5) (j := 0) hM hI hr21 rfl rfl hinX3 rfl (by decide) (by decide +kernel) (fun _ h9 => h9) dX8_busyShare_41 (fun v25 hv26 => ?_)
          obtain ⟨i27, rfl⟩ := hv26
          refine va_csq (W.runV (As := [.int i27]) (rest := [.int x6]) ⟨hx, hb, hml, hown, hts⟩ (c_X8_runningOn l _ _ _ _ _ _ _ p0 hk0 i27) (cwV 1 hts gN_busyShare_X8_runningOn rfl rfl rfl (by decide +kernel) ⟨Nat.le_of_ble_eq_true rfl, Nat.le_of_ble_eq_true rfl⟩) (z_preV hK hE hI [] rfl rfl (z_recv hK hI hk0 rfl rfl)) rfl rfl hl.1 rfl (lv_room (Nat.le_of_ble_eq_true rfl)) dX8_busyShare_44 ⟨Nat.le_of_ble_eq_true rfl, Nat.le_of_ble_eq_true rfl⟩) (fun v28 hw29 => ?_)
          rcases v28 with _ | r30
          · show W p l e (headSpec wsN_busyShare ({ frames := 1, cells := 0, slots := 0, locals := 25 })).room s m ([.ref p0] : List Value).toArray below meth c _ _ _ _ (MQD lw_cs below (va_Qf (fun (r : UInt32) (u : zS) => u = (L, κ, g)) (fun (u : zS) (t : State) => zB D tc (zA [] L s.heap.size) [] u t) (zA [] L s.heap.size)) ([.ref p0] : List Value).toArray s 0 0 (zA [] L s.heap.size)) (F0 m 47 ls (.null :: [.int x6]))
            skip
            have hL55 : ∀ (H : Heap) (locs : List Loc) (y32 : Int32) (y33 : Int32)    (hI : zI D tc (zA [] L s.heap.size) s.heap [] L κ g H locs) (ls : Array Slot) (hl : lv_has ls 7 [(1, .int v23), (6, .ref r20), (4, .int 6), (3, .ref aC), (2, .int x6), (0, .ref p0), (5, .int ((nI i8)))]), W p l e (headSpec wsN_busyShare ({ frames := 1, cells := 0, slots := 0, locals := 25 })).room s m ([.ref p0] : List Value).toArray below meth c H locs 0 0 (MQD lw_cs below (va_Qf (fun (r : UInt32) (u : zS) => u = (L, κ, g)) (fun (u : zS) (t : State) => zB D tc (zA [] L s.heap.size) [] u t) (zA [] L s.heap.size)) ([.ref p0] : List Value).toArray s 0 0 (zA [] L s.heap.size)) (F0 m 55 ls [.int y32, .int y33]) := by
              intro H locs y32 y33 hI ls hl
              refine lv_iadd hx hb dX8_busyShare_55 ?_
              refine lv_topi (fun v34 e35 => ?_)
              refine lv_istore_n (lv' := [(2, .int v34), (1, .int v23), (6, .ref r20), (4, .int 6), (3, .ref aC), (0, .ref p0), (5, .int ((nI i8)))]) hx hb dX8_busyShare_56 rfl hl (by decide) rfl (fun ls hl => ?_)
              refine lv_iinc (v := nI (i8 + 1)) (lv' := [(5, .int ((nI (i8 + 1)))), (2, .int v34), (1, .int v23), (6, .ref r20), (4, .int 6), (3, .ref aC), (0, .ref p0)]) hx hb dX8_busyShare_57 hl (k := 6) rfl (z_inc i8) (by decide) rfl (fun ls hl => ?_)
              refine lv_goto (tgt := 16) hx hb dX8_busyShare_60 (by decide) ?_
              exact ih _ _ v34 v23 (i8 + 1) (by first | omega | (simp only [] at *; omega)) (by first | omega | (simp only [] at *; omega)) (by first | exact ⟨0, rfl, Nat.le_refl _, fun _ j hj => absurd hj (Nat.not_lt_zero _)⟩ | exact z_cnt0 hcnt (z_nl (by omega) (by assumption)) | exact z_cnt1 hcnt (by assumption)) hI ls (lv_sub hl [4, 5, 1, 2, 6, 0] rfl)
            refine lv_ifnullN (tgt := 54) hx hb dX8_busyShare_47 (by decide) ?_
            refine lv_iconst (v := 0) hx hb dX8_busyShare_54 (by decide) ?_
            exact hL55 _ _ 0 x6 hI ls (lv_sub hl [0, 1, 2, 3, 4, 5, 6] rfl)
          · show W p l e (headSpec wsN_busyShare ({ frames := 1, cells := 0, slots := 0, locals := 25 })).room s m ([.ref p0] : List Value).toArray below meth c _ _ _ _ (MQD lw_cs below (va_Qf (fun (r : UInt32) (u : zS) => u = (L, κ, g)) (fun (u : zS) (t : State) => zB D tc (zA [] L s.heap.size) [] u t) (zA [] L s.heap.size)) ([.ref p0] : List Value).toArray s 0 0 (zA [] L s.heap.size)) (F0 m 47 ls (.ref r30 :: [.int x6]))
            have hr31 : κ r30 = 9 := hw29 _ rfl
            have hL55 : ∀ (H : Heap) (locs : List Loc) (y36 : Int32) (y37 : Int32)    (hI : zI D tc (zA [] L s.heap.size) s.heap [] L κ g H locs) (ls : Array Slot) (hl : lv_has ls 7 [(1, .int v23), (6, .ref r20), (4, .int 6), (3, .ref aC), (2, .int x6), (0, .ref p0), (5, .int ((nI i8)))]), W p l e (headSpec wsN_busyShare ({ frames := 1, cells := 0, slots := 0, locals := 25 })).room s m ([.ref p0] : List Value).toArray below meth c H locs 0 0 (MQD lw_cs below (va_Qf (fun (r : UInt32) (u : zS) => u = (L, κ, g)) (fun (u : zS) (t : State) => zB D tc (zA [] L s.heap.size) [] u t) (zA [] L s.heap.size)) ([.ref p0] : List Value).toArray s 0 0 (zA [] L s.heap.size)) (F0 m 55 ls [.int y36, .int y37]) := by
              intro H locs y36 y37 hI ls hl
              refine lv_iadd hx hb dX8_busyShare_55 ?_
              refine lv_topi (fun v38 e39 => ?_)
              refine lv_istore_n (lv' := [(2, .int v38), (1, .int v23), (6, .ref r20), (4, .int 6), (3, .ref aC), (0, .ref p0), (5, .int ((nI i8)))]) hx hb dX8_busyShare_56 rfl hl (by decide) rfl (fun ls hl => ?_)
              refine lv_iinc (v := nI (i8 + 1)) (lv' := [(5, .int ((nI (i8 + 1)))), (2, .int v38), (1, .int v23), (6, .ref r20), (4, .int 6), (3, .ref aC), (0, .ref p0)]) hx hb dX8_busyShare_57 hl (k := 6) rfl (z_inc i8) (by decide) rfl (fun ls hl => ?_)
              refine lv_goto (tgt := 16) hx hb dX8_busyShare_60 (by decide) ?_
              exact ih _ _ v38 v23 (i8 + 1) (by first | omega | (simp only [] at *; omega)) (by first | omega | (simp only [] at *; omega)) (by first | exact ⟨0, rfl, Nat.le_refl _, fun _ j hj => absurd hj (Nat.not_lt_zero _)⟩ | exact z_cnt0 hcnt (z_nl (by omega) (by assumption)) | exact z_cnt1 hcnt (by assumption)) hI ls (lv_sub hl [4, 5, 1, 2, 6, 0] rfl)
            refine lv_ifnull hx hb dX8_busyShare_47 ?_
            refine lv_iconst (v := 1) hx hb dX8_busyShare_50 (by decide) ?_
            refine lv_goto (tgt := 55) hx hb dX8_busyShare_51 (by decide) ?_
            exact hL55 _ _ 1 x6 hI ls (lv_sub hl [0, 1, 2, 3, 4, 5, 6] rfl)
  exact hL16 (6 + 1) _ _ 0 0 0 (by first | omega | (simp only [] at *; omega)) (by first | omega | (simp only [] at *; omega)) (by first | exact ⟨0, rfl, Nat.le_refl _, fun _ j hj => absurd hj (Nat.not_lt_zero _)⟩ | exact z_cnt0 hcnt (z_nl (by omega) (by assumption)) | exact z_cnt1 hcnt (by assumption)) hI ls (lv_sub hl [1, 2, 3, 4, 5, 0] rfl)

set_option maxHeartbeats 4000000 in
set_option maxRecDepth 100000 in
theorem cN_meanDegrees (l : Launch) (D : va_G) (tc : Nat → ClassId) (z0 : Nat) (L : List Nat) (κ : Nat → Nat) (g : Nat → Nat → Value) (sz : Nat) (p0 : Nat) (hk0 : κ p0 = 10) (aC : Nat) (hC : g p0 1 = .ref aC) (hs9 : ∃ j : Nat, j < 6 ∧ g aC j ≠ .null) : MetD lw_cs l yX8_meanDegrees wsN_meanDegrees ({ frames := 3, cells := 0, slots := 0, locals := 70 }) (zPc D tc z0 [.ref p0] [] (L, κ, g) sz) (va_Qd (fun (r : UInt64) (u : zS) => u = (L, κ, g)) (fun (u : zS) (t : State) => zB D tc (zA [] L sz) [] u t) (zA [] L sz)) 0 0 (zA [] L sz) := by
  refine MetD.ofW (cc := cX8_meanDegrees) (maxL := 6) (ret := (some .double)) (by decide) rfl ?_
  intro p e s m args below meth c s₁ B hml hv hd0
  obtain ⟨rfl, rfl, hK, hE, hI⟩ := hv.opn
  show W p l e _ s m _ below meth c s.heap [] 0 0 _ _
  have hx := B.exec
  have hb := B.bytes
  have hr := B.returns
  have hts := atoms_spec (ws := wsN_meanDegrees) B.pre
  have hts0 := hts
  have hE0 := hE
  have hown : s.vm.findClass RX8 = some m.cls := findClass_of_methodNamed B.named
  have hlocks := B.notSynchronized
  have hM : zM p s m c cX8_meanDegrees _ wsN_meanDegrees RX8 D tc := ⟨hx, hb, hts, hown, hK⟩
  have hinX8 : ∀ w ∈ wsX80, w ∈ wsN_meanDegrees := by decide +kernel
  have hinX3 : ∀ w ∈ wsX30, w ∈ wsN_meanDegrees := by decide +kernel
  have hinX1 : ∀ w ∈ wsX10, w ∈ wsN_meanDegrees := by decide +kernel
  have hl := lv_entry ([.ref p0]) (n := 6) (Nat.le_of_ble_eq_true rfl)
  rw [lg_entry_eq]
  generalize (lg_sl ([.ref p0]) ++ List.replicate (6 - (lg_sl ([.ref p0])).length) Slot.unset).toArray = ls at hl ⊢
  have hl : lv_has ls 6 [(0, .ref p0)] := hl
  refine lv_iconst (v := 0) hx hb dX8_meanDegrees_0 (by decide) ?_
  refine lv_istore_n (lv' := [(1, .int 0), (0, .ref p0)]) hx hb dX8_meanDegrees_1 rfl hl (by decide) rfl (fun ls hl => ?_)
  refine lv_aload_n hx hb dX8_meanDegrees_2 rfl (lv_at hl 1 rfl) ?_
  refine z_get (k := 10) (j := 7) hM hI hk0 rfl rfl hinX8 rfl (by decide) (by decide +kernel) (fun _ h9 => h9) dX8_meanDegrees_3 (fun v1 hv2 => ?_)
  obtain ⟨i3, rfl, hr4⟩ := hv2
  refine lv_iconst (v := 0) hx hb dX8_meanDegrees_6 (by decide) ?_
  refine z_cv hI (va_runV (As := [.int 0]) (rest := []) ⟨hx, hb, hml, hown, hts⟩ (c_X0_become l _ _ _ _ _ _ _ i3 hr4 0) (cwV 1 hts gN_meanDegrees_X0_become rfl rfl rfl (by decide +kernel) ⟨Nat.le_of_ble_eq_true rfl, Nat.le_of_ble_eq_true rfl⟩) (z_preV hK hE hI [] rfl rfl (z_recv hK hI hr4 rfl rfl)) rfl rfl hl.1 rfl (lv_room (Nat.le_of_ble_eq_true rfl)) dX8_meanDegrees_7 ⟨Nat.le_of_ble_eq_true rfl, Nat.le_of_ble_eq_true rfl⟩) (fun u H locs hw6 hI => ?_)
  obtain rfl := hw6
  refine lv_aload_n hx hb dX8_meanDegrees_10 rfl (lv_at hl 1 rfl) ?_
  refine z_get (k := 10) (j := 1) hM hI hk0 rfl rfl hinX8 rfl (by decide) (by decide +kernel) (fun _ h9 => h9) dX8_meanDegrees_11 (fun v7 hv8 => ?_)
  obtain ⟨hg10, i9, rfl, hr11⟩ := hv8
  obtain rfl : aC = i9 := Value.ref.inj ((hC).symm.trans hg10.symm)
  refine lv_astore_n (lv' := [(2, .ref aC), (1, .int 0), (0, .ref p0)]) hx hb dX8_meanDegrees_14 rfl hl (by decide) rfl (fun ls hl => ?_)
  refine lv_aload_n hx hb dX8_meanDegrees_15 rfl (lv_at hl 0 rfl) ?_
  refine z_alen (v := 6) hM hI hr11 rfl rfl rfl (by decide) dX8_meanDegrees_16 ?_
  refine lv_istore_n (lv' := [(3, .int 6), (2, .ref aC), (1, .int 0), (0, .ref p0)]) hx hb dX8_meanDegrees_17 rfl hl (by decide) rfl (fun ls hl => ?_)
  refine lv_iconst (v := 0) hx hb dX8_meanDegrees_18 (by decide) ?_
  refine lv_istore (lv' := [(4, .int 0), (3, .int 6), (2, .ref aC), (1, .int 0), (0, .ref p0)]) hx hb dX8_meanDegrees_19 hl (by decide) rfl (fun ls hl => ?_)
  have hL21 : ∀ (n : Nat) (H : Heap) (locs : List Loc) (x12 : Int32)  (i13 : Nat) (hi : i13 ≤ 6) (hn : 6 - i13 < n)  (hcnt : ∃ k : Nat, x12 = nI k ∧ k ≤ i13 ∧ (k = 0 → ∀ j : Nat, j < i13 → g aC j = .null)) (hI : zI D tc (zA [] L s.heap.size) s.heap [] L κ g H locs) (ls : Array Slot) (hl : lv_has ls 6 [(3, .int 6), (2, .ref aC), (1, .int x12), (0, .ref p0), (4, .int ((nI i13)))]), W p l e (headSpec wsN_meanDegrees ({ frames := 3, cells := 0, slots := 0, locals := 70 })).room s m ([.ref p0] : List Value).toArray below meth c H locs 0 0 (MQD lw_cs below (va_Qd (fun (r : UInt64) (u : zS) => u = (L, κ, g)) (fun (u : zS) (t : State) => zB D tc (zA [] L s.heap.size) [] u t) (zA [] L s.heap.size)) ([.ref p0] : List Value).toArray s 0 0 (zA [] L s.heap.size)) (F0 m 21 ls []) := by
    intro n
    induction n with
    | zero => intro H locs x12 i13 hi hn hcnt hI ls hl; exact absurd hn (Nat.not_lt_zero _)
    | succ n ih =>
      intro H locs x12 i13 hi hn hcnt hI ls hl
      refine lv_iload hx hb dX8_meanDegrees_21 (lv_at hl 4 rfl) ?_
      refine lv_iload_n hx hb dX8_meanDegrees_23 rfl (lv_at hl 0 rfl) ?_
      refine lv_icmp_ge (tgt := 62) hx hb dX8_meanDegrees_24 (by decide) (fun c14 => ?_) (fun c14 => ?_)
      · skip
        have hgec14 : 6 ≤ i13 := z_ge (by omega) (by omega) c14
        refine lv_iload_n hx hb dX8_meanDegrees_62 rfl (lv_at hl 2 rfl) ?_
        refine lv_if_ne (tgt := 77) hx hb dX8_meanDegrees_63 (by decide) (fun c15 => ?_) (fun c15 => ?_)
        · skip
          refine lv_aload_n hx hb dX8_meanDegrees_77 rfl (lv_at hl 3 rfl) ?_
          refine z_get (k := 10) (j := 7) hM hI hk0 rfl rfl hinX8 rfl (by decide) (by decide +kernel) (fun _ h9 => h9) dX8_meanDegrees_78 (fun v16 hv17 => ?_)
          obtain ⟨i18, rfl, hr19⟩ := hv17
          refine W.base ?_
          refine va_calldD hd0 (va_runV_D (As := []) (rest := []) ⟨hx, hb, hml, hown, dr_words hts _⟩ (c_X0_toDouble l _ _ _ _ _ _ _ i18 hr19) (cwV 0 (dr_words hts _) gN_meanDegrees_X0_toDouble rfl rfl rfl (by decide +kernel) ⟨Nat.le_of_ble_eq_true rfl, Nat.le_of_ble_eq_true rfl⟩) (z_preV hK hE hI [] rfl rfl (z_recv hK hI hr19 rfl rfl)) rfl rfl hl.1 rfl (lv_room (Nat.le_of_ble_eq_true rfl)) dX8_meanDegrees_81 ⟨Nat.le_of_ble_eq_true rfl, Nat.le_of_ble_eq_true rfl⟩) hI.2.1 (fun q _ h => z_sub hI [] rfl rfl q h) (z_sub hI [] rfl rfl) (fun r20 u t H locs ht hvm hw hB hz1 hk1 hS1 d21 hd22 => ?_)
          have hI := z_back hI ht hB hS1
          obtain rfl := hw
          have hts := dr_words hts0 d21
          have hK : va_K D vwCl (zTy tc) (s.setDrawn d21) := hK
          have hE : zE z0 (zA [] L s.heap.size) (s.setDrawn d21) := hE0.next (locs := []) (State.WarmedH.refl s) va_S.rf (fun _ h => h)
          have hown : (s.setDrawn d21).vm.findClass RX8 = some m.cls := hown
          have hM : zM p (s.setDrawn d21) m c cX8_meanDegrees _ wsN_meanDegrees RX8 D tc := ⟨hx, hb, hts, hown, hK⟩
          have hI : zI D tc (zA [] L s.heap.size) (s.setDrawn d21).heap [] L κ g _ _ := hI
          refine lv_iload_n hx hb dX8_meanDegrees_84 rfl (lv_at hl 2 rfl) ?_
          refine lv_i2d hx hb dX8_meanDegrees_85 ?_
          refine lv_topd (fun v23 e24 => ?_)
          refine lv_ddiv_any hd22 lw_bits hx hb dX8_meanDegrees_86 (fun r25 d26 _ hd27 => ?_)
          have hts := dr_words hts0 d26
          have hK : va_K D vwCl (zTy tc) (s.setDrawn d26) := hK
          have hE : zE z0 (zA [] L s.heap.size) (s.setDrawn d26) := hE0.next (locs := []) (State.WarmedH.refl s) va_S.rf (fun _ h => h)
          have hown : (s.setDrawn d26).vm.findClass RX8 = some m.cls := hown
          have hM : zM p (s.setDrawn d26) m c cX8_meanDegrees _ wsN_meanDegrees RX8 D tc := ⟨hx, hb, hts, hown, hK⟩
          have hI : zI D tc (zA [] L s.heap.size) (s.setDrawn d26).heap [] L κ g _ _ := hI
          refine W.endD hd27 ?_
          exact W.dret (v := r25) hx hb hr (fun t ht hW => ⟨⟨_, (L, κ, g), rfl, rfl, z_end hK hI ht hW⟩, z_F hI ht⟩) (z_locs hI) dX8_meanDegrees_87
        · skip
          exact absurd c15 (z_cntE hcnt (by omega) (by omega) hs9)
      · skip
        have hltc14 : i13 < 6 := z_lt (by omega) c14
        refine lv_aload_n hx hb dX8_meanDegrees_27 rfl (lv_at hl 1 rfl) ?_
        refine lv_iload hx hb dX8_meanDegrees_28 (lv_at hl 4 rfl) ?_
        refine z_aald hM hI hr11 rfl rfl rfl (vp_in_nI (by omega) (by omega)) dX8_meanDegrees_30 (fun x28 hv29 => ?_)
        obtain ⟨hghv29, hn32 | ⟨r30, hn32, hr31⟩⟩ := hv29
        · rw [hn32]
          rw [hn32] at hghv29
          refine lv_astoreN (lv' := [(5, .null), (3, .int 6), (2, .ref aC), (1, .int x12), (0, .ref p0), (4, .int ((nI i13)))]) hx hb dX8_meanDegrees_31 hl (by decide) rfl (fun ls hl => ?_)
          refine lv_aloadN hx hb dX8_meanDegrees_33 (lv_at hl 0 rfl) ?_
          refine lv_ifnullN (tgt := 56) hx hb dX8_meanDegrees_35 (by decide) ?_
          refine lv_iinc (v := nI (i13 + 1)) (lv' := [(4, .int ((nI (i13 + 1)))), (5, .null), (3, .int 6), (2, .ref aC), (1, .int x12), (0, .ref p0)]) hx hb dX8_meanDegrees_56 hl (k := 5) rfl (z_inc i13) (by decide) rfl (fun ls hl => ?_)
          refine lv_goto (tgt := 21) hx hb dX8_meanDegrees_59 (by decide) ?_
          exact ih _ _ x12 (i13 + 1) (by first | omega | (simp only [] at *; omega)) (by first | omega | (simp only [] at *; omega)) (by first | exact ⟨0, rfl, Nat.le_refl _, fun _ j hj => absurd hj (Nat.not_lt_zero _)⟩ | exact z_cnt0 hcnt (z_nl (by omega) (by assumption)) | exact z_cnt1 hcnt (by assumption)) hI ls (lv_sub hl [2, 3, 4, 5, 0] rfl)
        · rw [hn32]
          rw [hn32] at hghv29
          refine lv_astore (lv' := [(5, .ref r30), (3, .int 6), (2, .ref aC), (1, .int x12), (0, .ref p0), (4, .int ((nI i13)))]) hx hb dX8_meanDegrees_31 hl (by decide) rfl (fun ls hl => ?_)
          refine lv_aload hx hb dX8_meanDegrees_33 (lv_at hl 0 rfl) ?_
          refine lv_ifnull hx hb dX8_meanDegrees_35 ?_
          obtain ⟨v33, e34⟩ : ∃ y : Int32, y = x12 + Int32.ofInt (1) := ⟨_, rfl⟩
          refine lv_iinc (v := v33) (lv' := [(1, .int v33), (5, .ref r30), (3, .int 6), (2, .ref aC), (0, .ref p0), (4, .int ((nI i13)))]) hx hb dX8_meanDegrees_38 hl (k := 3) rfl e34.symm (by decide) rfl (fun ls hl => ?_)
          refine lv_aload_n hx hb dX8_meanDegrees_41 rfl (lv_at hl 4 rfl) ?_
          refine z_get (k := 10) (j := 7) hM hI hk0 rfl rfl hinX8 rfl (by decide) (by decide +kernel) (fun _ h9 => h9) dX8_meanDegrees_42 (fun v35 hv36 => ?_)
          obtain ⟨i37, rfl, hr38⟩ := hv36
          refine lv_aload hx hb dX8_meanDegrees_45 (lv_at hl 1 rfl) ?_
          refine z_get (k := 5) (j := 15) hM hI hr31 rfl rfl hinX3 rfl (by decide) (by decide +kernel) (fun _ h9 => h9) dX8_meanDegrees_47 (fun v39 hv40 => ?_)
          obtain ⟨i41, rfl, hr42⟩ := hv40
          refine z_get (k := 3) (j := 2) hM hI hr42 rfl rfl hinX1 rfl (by decide) (by decide +kernel) (fun _ h9 => h9) dX8_meanDegrees_50 (fun v43 hv44 => ?_)
          obtain ⟨i45, rfl, hr46⟩ := hv44
          refine z_cv hI (va_runV (As := [.ref i45]) (rest := []) ⟨hx, hb, hml, hown, hts⟩ (c_X0_add l _ _ _ _ _ _ _ i37 hr38 i45 hr46) (cwV 1 hts gN_meanDegrees_X0_add rfl rfl rfl (by decide +kernel) ⟨Nat.le_of_ble_eq_true rfl, Nat.le_of_ble_eq_true rfl⟩) (z_preV hK hE hI [] rfl rfl (z_recv hK hI hr38 rfl rfl)) rfl rfl hl.1 rfl (lv_room (Nat.le_of_ble_eq_true rfl)) dX8_meanDegrees_53 ⟨Nat.le_of_ble_eq_true rfl, Nat.le_of_ble_eq_true rfl⟩) (fun u H locs hw48 hI => ?_)
          obtain rfl := hw48
          refine lv_iinc (v := nI (i13 + 1)) (lv' := [(4, .int ((nI (i13 + 1)))), (1, .int v33), (5, .ref r30), (3, .int 6), (2, .ref aC), (0, .ref p0)]) hx hb dX8_meanDegrees_56 hl (k := 5) rfl (z_inc i13) (by decide) rfl (fun ls hl => ?_)
          refine lv_goto (tgt := 21) hx hb dX8_meanDegrees_59 (by decide) ?_
          exact ih _ _ v33 (i13 + 1) (by first | omega | (simp only [] at *; omega)) (by first | omega | (simp only [] at *; omega)) (by first | exact ⟨0, rfl, Nat.le_refl _, fun _ j hj => absurd hj (Nat.not_lt_zero _)⟩ | exact z_cnt0 hcnt (z_nl (by omega) (by assumption)) | exact z_cnt1 hcnt (by assumption)) hI ls (lv_sub hl [3, 4, 1, 5, 0] rfl)
  exact hL21 (6 + 1) _ _ 0 0 (by first | omega | (simp only [] at *; omega)) (by first | omega | (simp only [] at *; omega)) (by first | exact ⟨0, rfl, Nat.le_refl _, fun _ j hj => absurd hj (Nat.not_lt_zero _)⟩ | exact z_cnt0 hcnt (z_nl (by omega) (by assumption)) | exact z_cnt1 hcnt (by assumption)) hI ls (lv_sub hl [1, 2, 3, 4, 0] rfl)

set_option maxHeartbeats 4000000 in
set_option maxRecDepth 100000 in
theorem cN_busyShare_no (l : Launch) (hnt : l.stackTraces = false) (D : va_G) (tc : Nat → ClassId) (z0 : Nat) (L : List Nat) (κ : Nat → Nat) (g : Nat → Nat → Value) (sz : Nat) (p0 : Nat) (hk0 : κ p0 = 10) (aC : Nat) (hC : g p0 1 = .ref aC) (hn9 : ∀ j : Nat, j < 6 → g aC j = .null) : vx_Met l yX8_busyShare wsN_busyShare ({ frames := 6, cells := 1, slots := 6, locals := 98 }) (zPc D tc z0 [.ref p0] [] (L, κ, g) sz) (va_Qf (fun (r : UInt32) (u : zS) => False) (fun (u : zS) (t : State) => zB D tc (zA [] L sz) [] u t) (zA [] L sz)) (vx_X (fun u : zS => True) (fun (E : String) (u : zS) (t : State) => (E = "java/util/NoSuchElementException" ∧ u = (L, κ, g)) ∧ zB D tc (zA [] L sz) [] u t) (zA [] L sz)) 1 6 (zA [] L sz) := by
  refine vx_ofW (cc := cX8_busyShare) (maxL := 7) (ret := (some .float)) (by decide) rfl ?_
  intro p e s m args below meth c s₁ B hml hxt hv
  obtain ⟨rfl, rfl, hK, hE, hI⟩ := hv.opn
  have hx := B.exec
  have hb := B.bytes
  have hr := B.returns
  have hts := atoms_spec (ws := wsN_busyShare) B.pre
  have hown : s.vm.findClass RX8 = some m.cls := findClass_of_methodNamed B.named
  have hlocks := B.notSynchronized
  have hout : ∀ (i : Nat), ∀ x ∈ c.exceptionTable.toList, covers x i = false := fun i x hx9 => (hxt x hx9).elim
  have hM : zM p s m c cX8_busyShare _ wsN_busyShare RX8 D tc := ⟨hx, hb, hts, hown, hK⟩
  have hinX8 : ∀ w ∈ wsX80, w ∈ wsN_busyShare := by decide +kernel
  have hl := lv_entry ([.ref p0]) (n := 7) (Nat.le_of_ble_eq_true rfl)
  rw [lg_entry_eq]
  generalize (lg_sl ([.ref p0]) ++ List.replicate (7 - (lg_sl ([.ref p0])).length) Slot.unset).toArray = ls at hl ⊢
  have hl : lv_has ls 7 [(0, .ref p0)] := hl
  refine lv_iconst (v := 0) hx hb dX8_busyShare_0 (by decide) ?_
  refine lv_istore_n (lv' := [(1, .int 0), (0, .ref p0)]) hx hb dX8_busyShare_1 rfl hl (by decide) rfl (fun ls hl => ?_)
  refine lv_iconst (v := 0) hx hb dX8_busyShare_2 (by decide) ?_
  refine lv_istore_n (lv' := [(2, .int 0), (1, .int 0), (0, .ref p0)]) hx hb dX8_busyShare_3 rfl hl (by decide) rfl (fun ls hl => ?_)
  refine lv_aload_n hx hb dX8_busyShare_4 rfl (lv_at hl 2 rfl) ?_
  refine z_get (k := 10) (j := 1) hM hI hk0 rfl rfl hinX8 rfl (by decide) (by decide +kernel) (fun _ h9 => h9) dX8_busyShare_5 (fun v1 hv2 => ?_)
  obtain ⟨hg4, i3, rfl, hr5⟩ := hv2
  obtain rfl : aC = i3 := Value.ref.inj ((hC).symm.trans hg4.symm)
  refine lv_astore_n (lv' := [(3, .ref aC), (2, .int 0), (1, .int 0), (0, .ref p0)]) hx hb dX8_busyShare_8 rfl hl (by decide) rfl (fun ls hl => ?_)
  refine lv_aload_n hx hb dX8_busyShare_9 rfl (lv_at hl 0 rfl) ?_
  refine z_alen (v := 6) hM hI hr5 rfl rfl rfl (by decide) dX8_busyShare_10 ?_
  refine lv_istore (lv' := [(4, .int 6), (3, .ref aC), (2, .int 0), (1, .int 0), (0, .ref p0)]) hx hb dX8_busyShare_11 hl (by decide) rfl (fun ls hl => ?_)
  refine lv_iconst (v := 0) hx hb dX8_busyShare_13 (by decide) ?_
  refine lv_istore (lv' := [(5, .int 0), (4, .int 6), (3, .ref aC), (2, .int 0), (1, .int 0), (0, .ref p0)]) hx hb dX8_busyShare_14 hl (by decide) rfl (fun ls hl => ?_)
  have hL16 : ∀ (n : Nat) (H : Heap) (locs : List Loc)   (i6 : Nat) (hi : i6 ≤ 6) (hn : 6 - i6 < n)   (hI : zI D tc (zA [] L s.heap.size) s.heap [] L κ g H locs) (ls : Array Slot) (hl : lv_has ls 7 [(4, .int 6), (3, .ref aC), (2, .int 0), (1, .int 0), (0, .ref p0), (5, .int ((nI i6)))]), W p l e (headSpec wsN_busyShare ({ frames := 6, cells := 1, slots := 6, locals := 98 })).room s m ([.ref p0] : List Value).toArray below meth c H locs 0 0 (vx_MQ below (va_Qf (fun (r : UInt32) (u : zS) => False) (fun (u : zS) (t : State) => zB D tc (zA [] L s.heap.size) [] u t) (zA [] L s.heap.size)) (vx_X (fun u : zS => True) (fun (E : String) (u : zS) (t : State) => (E = "java/util/NoSuchElementException" ∧ u = (L, κ, g)) ∧ zB D tc (zA [] L s.heap.size) [] u t) (zA [] L s.heap.size)) ([.ref p0] : List Value).toArray s 1 6 (zA [] L s.heap.size)) (F0 m 16 ls []) := by
    intro n
    induction n with
    | zero => intro H locs i6 hi hn hI ls hl; exact absurd hn (Nat.not_lt_zero _)
    | succ n ih =>
      intro H locs i6 hi hn hI ls hl
      refine lv_iload hx hb dX8_busyShare_16 (lv_at hl 5 rfl) ?_
      refine lv_iload hx hb dX8_busyShare_18 (lv_at hl 0 rfl) ?_
      refine lv_icmp_ge (tgt := 63) hx hb dX8_busyShare_20 (by decide) (fun c7 => ?_) (fun c7 => ?_)
      · skip
        have hgec7 : 6 ≤ i6 := z_ge (by omega) (by omega) c7
        refine lv_iload_n hx hb dX8_busyShare_63 rfl (lv_at hl 3 rfl) ?_
        refine lv_if_ne (tgt := 78) hx hb dX8_busyShare_64 (by decide) (fun c8 => ?_) (fun c8 => ?_)
        · skip
          exact absurd rfl c8
        · skip
          refine z_throwX (ik := 190) (is := 292) (ic := 194) (E := "java/util/NoSuchElementException") (text := "no cores") (ix := 13) (n := 7) (rx := prog_42_method_4_code) (Y := "java/lang/RuntimeException") (L0 := L) ["java/lang/Exception"] (by decide) (by decide) zN_0 zN_1 zN_2 zN_5 hM hE hI hnt (by decide) (by decide +kernel) (by decide +kernel) (by decide +kernel) (by decide +kernel) (by decide +kernel) (by decide +kernel) (hl.1.trans hml.symm) dX8_busyShare_67 dX8_busyShare_70 (Or.inr ⟨dX8_busyShare_71, rfl⟩) dX8_busyShare_74 dX8_busyShare_77 hout (Nat.le_of_ble_eq_true rfl) (Nat.le_of_ble_eq_true rfl) (Nat.le_of_ble_eq_true rfl) (Nat.le_of_ble_eq_true rfl) hlocks ⟨rfl, rfl⟩ (Nat.le_of_ble_eq_true rfl) (Nat.le_of_ble_eq_true rfl)
      · skip
        have hltc7 : i6 < 6 := z_lt (by omega) c7
        refine lv_aload_n hx hb dX8_busyShare_23 rfl (lv_at hl 1 rfl) ?_
        refine lv_iload hx hb dX8_busyShare_24 (lv_at hl 5 rfl) ?_
        refine z_aald hM hI hr5 rfl rfl rfl (vp_in_nI (by omega) (by omega)) dX8_busyShare_26 (fun x9 hv10 => ?_)
        obtain ⟨hghv10, hn13 | ⟨r11, hn13, hr12⟩⟩ := hv10
        · rw [hn13]
          rw [hn13] at hghv10
          refine lv_astoreN (lv' := [(6, .null), (4, .int 6), (3, .ref aC), (2, .int 0), (1, .int 0), (0, .ref p0), (5, .int ((nI i6)))]) hx hb dX8_busyShare_27 hl (by decide) rfl (fun ls hl => ?_)
          refine lv_aloadN hx hb dX8_busyShare_29 (lv_at hl 0 rfl) ?_
          refine lv_ifnullN (tgt := 57) hx hb dX8_busyShare_31 (by decide) ?_
          refine lv_iinc (v := nI (i6 + 1)) (lv' := [(5, .int ((nI (i6 + 1)))), (6, .null), (4, .int 6), (3, .ref aC), (2, .int 0), (1, .int 0), (0, .ref p0)]) hx hb dX8_busyShare_57 hl (k := 6) rfl (z_inc i6) (by decide) rfl (fun ls hl => ?_)
          refine lv_goto (tgt := 16) hx hb dX8_busyShare_60 (by decide) ?_
          exact ih _ _ (i6 + 1) (by first | omega | (simp only [] at *; omega)) (by first | omega | (simp only [] at *; omega)) hI ls (lv_sub hl [2, 3, 4, 5, 6, 0] rfl)
        · rw [hn13]
          rw [hn13] at hghv10
          rw [nI_clamp (by omega), hn9 _ (by omega)] at hghv10
          exact absurd hghv10 (by simp)
  exact hL16 (6 + 1) _ _ 0 (by first | omega | (simp only [] at *; omega)) (by first | omega | (simp only [] at *; omega)) hI ls (lv_sub hl [1, 2, 3, 4, 5, 0] rfl)

set_option maxHeartbeats 4000000 in
set_option maxRecDepth 100000 in
theorem cN_meanDegrees_no (l : Launch) (hnt : l.stackTraces = false) (D : va_G) (tc : Nat → ClassId) (z0 : Nat) (L : List Nat) (κ : Nat → Nat) (g : Nat → Nat → Value) (sz : Nat) (p0 : Nat) (hk0 : κ p0 = 10) (aC : Nat) (hC : g p0 1 = .ref aC) (hn9 : ∀ j : Nat, j < 6 → g aC j = .null) : vx_Met l yX8_meanDegrees wsN_meanDegrees ({ frames := 6, cells := 1, slots := 6, locals := 98 }) (zPc D tc z0 [.ref p0] [] (L, κ, g) sz) (va_Qd (fun (r : UInt64) (u : zS) => False) (fun (u : zS) (t : State) => zB D tc (zA [] L sz) [] u t) (zA [] L sz)) (vx_X (fun u : zS => True) (fun (E : String) (u : zS) (t : State) => (E = "java/util/NoSuchElementException" ∧ u = (L, κ, g)) ∧ zB D tc (zA [] L sz) [] u t) (zA [] L sz)) 1 6 (zA [] L sz) := by
  refine vx_ofW (cc := cX8_meanDegrees) (maxL := 6) (ret := (some .double)) (by decide) rfl ?_
  intro p e s m args below meth c s₁ B hml hxt hv
  obtain ⟨rfl, rfl, hK, hE, hI⟩ := hv.opn
  have hx := B.exec
  have hb := B.bytes
  have hr := B.returns
  have hts := atoms_spec (ws := wsN_meanDegrees) B.pre
  have hown : s.vm.findClass RX8 = some m.cls := findClass_of_methodNamed B.named
  have hlocks := B.notSynchronized
  have hout : ∀ (i : Nat), ∀ x ∈ c.exceptionTable.toList, covers x i = false := fun i x hx9 => (hxt x hx9).elim
  have hM : zM p s m c cX8_meanDegrees _ wsN_meanDegrees RX8 D tc := ⟨hx, hb, hts, hown, hK⟩
  have hinX8 : ∀ w ∈ wsX80, w ∈ wsN_meanDegrees := by decide +kernel
  have hl := lv_entry ([.ref p0]) (n := 6) (Nat.le_of_ble_eq_true rfl)
  rw [lg_entry_eq]
  generalize (lg_sl ([.ref p0]) ++ List.replicate (6 - (lg_sl ([.ref p0])).length) Slot.unset).toArray = ls at hl ⊢
  have hl : lv_has ls 6 [(0, .ref p0)] := hl
  refine lv_iconst (v := 0) hx hb dX8_meanDegrees_0 (by decide) ?_
  refine lv_istore_n (lv' := [(1, .int 0), (0, .ref p0)]) hx hb dX8_meanDegrees_1 rfl hl (by decide) rfl (fun ls hl => ?_)
  refine lv_aload_n hx hb dX8_meanDegrees_2 rfl (lv_at hl 1 rfl) ?_
  refine z_get (k := 10) (j := 7) hM hI hk0 rfl rfl hinX8 rfl (by decide) (by decide +kernel) (fun _ h9 => h9) dX8_meanDegrees_3 (fun v1 hv2 => ?_)
  obtain ⟨i3, rfl, hr4⟩ := hv2
  refine lv_iconst (v := 0) hx hb dX8_meanDegrees_6 (by decide) ?_
  refine z_cv hI (va_runV (As := [.int 0]) (rest := []) ⟨hx, hb, hml, hown, hts⟩ (c_X0_become l _ _ _ _ _ _ _ i3 hr4 0) (cwV 1 hts gN_meanDegrees_X0_become rfl rfl rfl (by decide +kernel) ⟨Nat.le_of_ble_eq_true rfl, Nat.le_of_ble_eq_true rfl⟩) (z_preV hK hE hI [] rfl rfl (z_recv hK hI hr4 rfl rfl)) rfl rfl hl.1 rfl (lv_room (Nat.le_of_ble_eq_true rfl)) dX8_meanDegrees_7 ⟨Nat.le_of_ble_eq_true rfl, Nat.le_of_ble_eq_true rfl⟩) (fun u H locs hw6 hI => ?_)
  obtain rfl := hw6
  refine lv_aload_n hx hb dX8_meanDegrees_10 rfl (lv_at hl 1 rfl) ?_
  refine z_get (k := 10) (j := 1) hM hI hk0 rfl rfl hinX8 rfl (by decide) (by decide +kernel) (fun _ h9 => h9) dX8_meanDegrees_11 (fun v7 hv8 => ?_)
  obtain ⟨hg10, i9, rfl, hr11⟩ := hv8
  obtain rfl : aC = i9 := Value.ref.inj ((hC).symm.trans hg10.symm)
  refine lv_astore_n (lv' := [(2, .ref aC), (1, .int 0), (0, .ref p0)]) hx hb dX8_meanDegrees_14 rfl hl (by decide) rfl (fun ls hl => ?_)
  refine lv_aload_n hx hb dX8_meanDegrees_15 rfl (lv_at hl 0 rfl) ?_
  refine z_alen (v := 6) hM hI hr11 rfl rfl rfl (by decide) dX8_meanDegrees_16 ?_
  refine lv_istore_n (lv' := [(3, .int 6), (2, .ref aC), (1, .int 0), (0, .ref p0)]) hx hb dX8_meanDegrees_17 rfl hl (by decide) rfl (fun ls hl => ?_)
  refine lv_iconst (v := 0) hx hb dX8_meanDegrees_18 (by decide) ?_
  refine lv_istore (lv' := [(4, .int 0), (3, .int 6), (2, .ref aC), (1, .int 0), (0, .ref p0)]) hx hb dX8_meanDegrees_19 hl (by decide) rfl (fun ls hl => ?_)
  have hL21 : ∀ (n : Nat) (H : Heap) (locs : List Loc)   (i12 : Nat) (hi : i12 ≤ 6) (hn : 6 - i12 < n)   (hI : zI D tc (zA [] L s.heap.size) s.heap [] L κ g H locs) (ls : Array Slot) (hl : lv_has ls 6 [(3, .int 6), (2, .ref aC), (1, .int 0), (0, .ref p0), (4, .int ((nI i12)))]), W p l e (headSpec wsN_meanDegrees ({ frames := 6, cells := 1, slots := 6, locals := 98 })).room s m ([.ref p0] : List Value).toArray below meth c H locs 0 0 (vx_MQ below (va_Qd (fun (r : UInt64) (u : zS) => False) (fun (u : zS) (t : State) => zB D tc (zA [] L s.heap.size) [] u t) (zA [] L s.heap.size)) (vx_X (fun u : zS => True) (fun (E : String) (u : zS) (t : State) => (E = "java/util/NoSuchElementException" ∧ u = (L, κ, g)) ∧ zB D tc (zA [] L s.heap.size) [] u t) (zA [] L s.heap.size)) ([.ref p0] : List Value).toArray s 1 6 (zA [] L s.heap.size)) (F0 m 21 ls []) := by
    intro n
    induction n with
    | zero => intro H locs i12 hi hn hI ls hl; exact absurd hn (Nat.not_lt_zero _)
    | succ n ih =>
      intro H locs i12 hi hn hI ls hl
      refine lv_iload hx hb dX8_meanDegrees_21 (lv_at hl 4 rfl) ?_
      refine lv_iload_n hx hb dX8_meanDegrees_23 rfl (lv_at hl 0 rfl) ?_
      refine lv_icmp_ge (tgt := 62) hx hb dX8_meanDegrees_24 (by decide) (fun c13 => ?_) (fun c13 => ?_)
      · skip
        have hgec13 : 6 ≤ i12 := z_ge (by omega) (by omega) c13
        refine lv_iload_n hx hb dX8_meanDegrees_62 rfl (lv_at hl 2 rfl) ?_
        refine lv_if_ne (tgt := 77) hx hb dX8_meanDegrees_63 (by decide) (fun c14 => ?_) (fun c14 => ?_)
        · skip
          exact absurd rfl c14
        · skip
          refine z_throwX (ik := 190) (is := 292) (ic := 194) (E := "java/util/NoSuchElementException") (text := "no cores") (ix := 13) (n := 7) (rx := prog_42_method_4_code) (Y := "java/lang/RuntimeException") (L0 := L) ["java/lang/Exception"] (by decide) (by decide) zN_0 zN_1 zN_2 zN_5 hM hE hI hnt (by decide) (by decide +kernel) (by decide +kernel) (by decide +kernel) (by decide +kernel) (by decide +kernel) (by decide +kernel) (hl.1.trans hml.symm) dX8_meanDegrees_66 dX8_meanDegrees_69 (Or.inr ⟨dX8_meanDegrees_70, rfl⟩) dX8_meanDegrees_73 dX8_meanDegrees_76 hout (Nat.le_of_ble_eq_true rfl) (Nat.le_of_ble_eq_true rfl) (Nat.le_of_ble_eq_true rfl) (Nat.le_of_ble_eq_true rfl) hlocks ⟨rfl, rfl⟩ (Nat.le_of_ble_eq_true rfl) (Nat.le_of_ble_eq_true rfl)
      · skip
        have hltc13 : i12 < 6 := z_lt (by omega) c13
        refine lv_aload_n hx hb dX8_meanDegrees_27 rfl (lv_at hl 1 rfl) ?_
        refine lv_iload hx hb dX8_meanDegrees_28 (lv_at hl 4 rfl) ?_
        refine z_aald hM hI hr11 rfl rfl rfl (vp_in_nI (by omega) (by omega)) dX8_meanDegrees_30 (fun x15 hv16 => ?_)
        obtain ⟨hghv16, hn19 | ⟨r17, hn19, hr18⟩⟩ := hv16
        · rw [hn19]
          rw [hn19] at hghv16
          refine lv_astoreN (lv' := [(5, .null), (3, .int 6), (2, .ref aC), (1, .int 0), (0, .ref p0), (4, .int ((nI i12)))]) hx hb dX8_meanDegrees_31 hl (by decide) rfl (fun ls hl => ?_)
          refine lv_aloadN hx hb dX8_meanDegrees_33 (lv_at hl 0 rfl) ?_
          refine lv_ifnullN (tgt := 56) hx hb dX8_meanDegrees_35 (by decide) ?_
          refine lv_iinc (v := nI (i12 + 1)) (lv' := [(4, .int ((nI (i12 + 1)))), (5, .null), (3, .int 6), (2, .ref aC), (1, .int 0), (0, .ref p0)]) hx hb dX8_meanDegrees_56 hl (k := 5) rfl (z_inc i12) (by decide) rfl (fun ls hl => ?_)
          refine lv_goto (tgt := 21) hx hb dX8_meanDegrees_59 (by decide) ?_
          exact ih _ _ (i12 + 1) (by first | omega | (simp only [] at *; omega)) (by first | omega | (simp only [] at *; omega)) hI ls (lv_sub hl [2, 3, 4, 5, 0] rfl)
        · rw [hn19]
          rw [hn19] at hghv16
          rw [nI_clamp (by omega), hn9 _ (by omega)] at hghv16
          exact absurd hghv16 (by simp)
  exact hL21 (6 + 1) _ _ 0 (by first | omega | (simp only [] at *; omega)) (by first | omega | (simp only [] at *; omega)) hI ls (lv_sub hl [1, 2, 3, 4, 0] rfl)


