/-! the world at the law's entry, out of the tables' words and of what the statement gives -/
theorem zw_prim {ty : FieldType} {args : Array Value} {s : State} (h : (Cond.arrayClass ty).before args s = true) (hp : ∀ C, ty ≠ .object C) : ∃ cA : ClassId, ArrOfT s cA ty ∧ va_RA s cA ty := by
  obtain ⟨c, k, comp, h1, h2, h3⟩ := Cond.arrayClass_spec (show (Cond.arrayClass ty).holds args s none s [] = true from h)
  refine ⟨c, fun n z => ⟨(fun k h => by cases h), k, h2, comp, h3⟩, ?_⟩
  cases ty <;> first | exact h1 | exact absurd rfl (hp _)
theorem zw_ref {C : String} {args : Array Value} {s : State} (h : (Cond.arrayOver (.object C)).before args s = true) : ∃ cA : ClassId, ArrOfT s cA (.object C) ∧ va_RA s cA (.object C) := by
  obtain ⟨comp, c, k, h1, -, h2, h3, h4⟩ := Cond.arrayOver_spec (show (Cond.arrayOver (.object C)).holds args s none s [] = true from h)
  exact ⟨c, fun n z => ⟨(fun k h => by cases h), k, h2, comp, h3⟩, k, comp, h2, h3, h1, h4⟩
set_option maxRecDepth 100000 in
set_option maxHeartbeats 4000000 in
theorem zw_K {b : Nat} {s : State} (hts : ∀ w ∈ lw_tbl, w.before #[Value.ref b] s = true) : ∃ (D : va_G) (tc : Nat → ClassId), va_K D vwCl (zTy tc) s := by
  have hc : ∀ q ∈ vwCl, ∃ (cC : ClassId) (iS : Nat → Nat), u_Kn s q.1 q.2.1 q.2.2 cC iS := by
    have kn : ∀ (C : String) (T : u_T) (N n : Nat), (∀ w ∈ u_ws C T N, w ∈ lw_tbl) → Cond.instantiable C n ∈ lw_tbl → ∃ (cC : ClassId) (iS : Nat → Nat), u_Kn s C T N cC iS := fun C T N n h1 h2 => u_known hts h1 (hts _ h2)
    refine List.forall_mem_cons.mpr ⟨kn RJx35411 TJx35411 4 4 inJx35411 (by decide +kernel), ?_⟩
    refine List.forall_mem_cons.mpr ⟨kn RJx4a65c TJx4a65c 3 3 inJx4a65c (by decide +kernel), ?_⟩
    refine List.forall_mem_cons.mpr ⟨kn RX0 TX0 2 2 inX0 (by decide +kernel), ?_⟩
    refine List.forall_mem_cons.mpr ⟨kn RX1 TX1 3 3 inX1 (by decide +kernel), ?_⟩
    refine List.forall_mem_cons.mpr ⟨kn RX2 TX2 5 5 inX2 (by decide +kernel), ?_⟩
    refine List.forall_mem_cons.mpr ⟨kn RX3 TX3 20 20 inX3 (by decide +kernel), ?_⟩
    refine List.forall_mem_cons.mpr ⟨kn RX4 TX4 2 2 inX4 (by decide +kernel), ?_⟩
    refine List.forall_mem_cons.mpr ⟨kn RX5 TX5 7 7 inX5 (by decide +kernel), ?_⟩
    refine List.forall_mem_cons.mpr ⟨kn RX6 TX6 10 10 inX6 (by decide +kernel), ?_⟩
    refine List.forall_mem_cons.mpr ⟨kn RX7 TX7 4 4 inX7 (by decide +kernel), ?_⟩
    refine List.forall_mem_cons.mpr ⟨kn RX8 TX8 10 10 inX8 (by decide +kernel), ?_⟩
    refine List.forall_mem_cons.mpr ⟨kn RX9 TX9 19 19 inX9 (by decide +kernel), ?_⟩
    refine List.forall_mem_cons.mpr ⟨kn RX10 TX10 4 4 inX10 (by decide +kernel), ?_⟩
    refine List.forall_mem_cons.mpr ⟨kn RX11 TX11 27 27 inX11 (by decide +kernel), ?_⟩
    exact fun _ h => absurd h List.not_mem_nil
  have hc2 : ∀ c : Nat, ∃ (cC : ClassId) (iS : Nat → Nat), ∀ q, vwCl[c]? = some q → u_Kn s q.1 q.2.1 q.2.2 cC iS := by
    intro c
    cases h : vwCl[c]? with
    | none => exact ⟨0, fun _ => 0, fun q hq => by cases hq⟩
    | some q =>
      obtain ⟨cC, iS, hk⟩ := hc q (List.mem_of_getElem? h)
      exact ⟨cC, iS, fun q2 hq => by cases hq; exact hk⟩
  obtain ⟨t0, a0, b0⟩ := zw_prim (ty := .int) (hts (.arrayClass .int) (by decide +kernel)) (fun C h => by cases h)
  obtain ⟨t1, a1, b1⟩ := zw_prim (ty := .long) (hts (.arrayClass .long) (by decide +kernel)) (fun C h => by cases h)
  obtain ⟨t2, a2, b2⟩ := zw_prim (ty := .double) (hts (.arrayClass .double) (by decide +kernel)) (fun C h => by cases h)
  obtain ⟨t3, a3, b3⟩ := zw_ref (C := "Wattgovern$Core") (hts (.arrayOver (.object "Wattgovern$Core")) (by decide +kernel))
  obtain ⟨t4, a4, b4⟩ := zw_ref (C := "Wattgovern$Rail") (hts (.arrayOver (.object "Wattgovern$Rail")) (by decide +kernel))
  obtain ⟨t5, a5, b5⟩ := zw_ref (C := "Wattgovern$Task") (hts (.arrayOver (.object "Wattgovern$Task")) (by decide +kernel))
  obtain ⟨t6, a6, b6⟩ := zw_ref (C := "java/lang/Object") (hts (.arrayOver (.object "java/lang/Object")) (by decide +kernel))
  refine ⟨(fun c => Classical.choose (hc2 c), fun c => Classical.choose (Classical.choose_spec (hc2 c))), (fun i => ([t0, t1, t2, t3, t4, t5, t6] : List ClassId).getD i t0), fun c q hq => Classical.choose_spec (Classical.choose_spec (hc2 c)) q hq, fun k q hk => ?_⟩
  match k, hk with
  | 0, hk => cases hk; exact ⟨a0, b0⟩
  | 1, hk => cases hk; exact ⟨a1, b1⟩
  | 2, hk => cases hk; exact ⟨a2, b2⟩
  | 3, hk => cases hk; exact ⟨a3, b3⟩
  | 4, hk => cases hk; exact ⟨a4, b4⟩
  | 5, hk => cases hk; exact ⟨a5, b5⟩
  | 6, hk => cases hk; exact ⟨a6, b6⟩
  | k + 7, hk => cases hk
set_option maxRecDepth 100000 in
set_option maxHeartbeats 4000000 in
theorem zw_E {b : Nat} {s : State} (hts : ∀ w ∈ lw_tbl, w.before #[Value.ref b] s = true) (hgv : (Jvm.Cond.and given_1 narrow_1).before #[Value.ref b] s = true) : ∃ z0 : Nat, zE z0 (zA [] [] s.heap.size) s := by
  have hs := flat_of_before _ hgv
  have hA : ∀ a : Nat, a < s.heap.size → ¬ zA [] [] s.heap.size a := fun a ha q => by
    rcases q with q | q | q
    · exact absurd q List.not_mem_nil
    · exact absurd q List.not_mem_nil
    · exact absurd ha (Nat.not_lt.mpr q)
  have hw : ∀ w ∈ tables_1, w.before #[Value.ref b] s = true := fun w h => hts w (List.mem_append_right _ h)
  obtain ⟨t, ht, hT⟩ := va_Tof (tm := .static "java/util/ArrayList" "DEFAULTCAPACITY_EMPTY_ELEMENTDATA" "[Ljava/lang/Object;") (ty := .object "java/lang/Object") (N := 0) (f := fun _ => .null) (A := zA [] [] s.heap.size) (by decide) (hs _ (by decide +kernel)) (va_eqt (z := 0) (hs _ (by decide +kernel))) (fun j hj => absurd hj (Nat.not_lt_zero _)) hA
  obtain ⟨adK, adV, hS, hev⟩ := vk_Sof (args := #[Value.ref b]) (s := s) (N := 2) (tm := fun i => if i = 0 then Term.string "WattgovernModel" 220 else Term.string "WattgovernModel" 286) (len := [6, 6]) (byt := [[114, 116, 111, 110, 112, 113], [119, 98, 111, 104, 97, 116]]) (A := zA [] [] s.heap.size)
    (fun i hi => by rcases (show i = 0 ∨ i = 1 by omega) with rfl | rfl <;> decide) (fun i hi => by rcases (show i = 0 ∨ i = 1 by omega) with rfl | rfl <;> exact hs _ (by decide +kernel)) (fun i hi => by rcases (show i = 0 ∨ i = 1 by omega) with rfl | rfl <;> exact hs _ (by decide +kernel))
    (fun i hi => by rcases (show i = 0 ∨ i = 1 by omega) with rfl | rfl <;> exact hs _ (by decide +kernel)) (fun i hi => by rcases (show i = 0 ∨ i = 1 by omega) with rfl | rfl <;> exact hs _ (by decide +kernel))
    (fun i hi j hj => by
      rcases (show i = 0 ∨ i = 1 by omega) with rfl | rfl
      · have hj : j < 6 := hj
        rcases (show j = 0 ∨ j = 1 ∨ j = 2 ∨ j = 3 ∨ j = 4 ∨ j = 5 by omega) with rfl | rfl | rfl | rfl | rfl | rfl <;> exact hs _ (by decide +kernel)
      · have hj : j < 6 := hj
        rcases (show j = 0 ∨ j = 1 ∨ j = 2 ∨ j = 3 ∨ j = 4 ∨ j = 5 by omega) with rfl | rfl | rfl | rfl | rfl | rfl <;> exact hs _ (by decide +kernel))
    (fun i j hi hj hij => by
      rcases (show i = 0 ∨ i = 1 by omega) with rfl | rfl <;> rcases (show j = 0 ∨ j = 1 by omega) with rfl | rfl
      · exact absurd rfl hij
      · exact Or.inl (hs _ (by decide +kernel))
      · exact Or.inr (hs _ (by decide +kernel))
      · exact absurd rfl hij) hA
  refine ⟨t, ?_, ?_, ?_, ?_, ?_, ?_, ⟨?_, hT⟩, ?_, ?_, adK, adV, hS, ?_, ?_⟩
  · intro w hm hk
    have h := hw w hm
    cases w <;> first | exact va_Nw.of rfl h | (simp [zNk] at hk; done) | skip
    rename_i ty
    cases ty <;> first | (simp [zNk] at hk; done) | exact va_AO.of h
  · intro own k tx hm
    have h := hw _ hm
    cases hc : s.vm.findClass own with
    | none => simp [Cond.before, Cond.holds, Cond.value, hc] at h
    | some c1 =>
      obtain ⟨_, _, _, a, -, -, -, -, -, hev⟩ := Cond.stringRef_spec hc (show (Cond.stringRef own k tx).holds #[Value.ref b] s none s [] = true from h)
      exact ⟨a, vk_R.of h hev⟩
  · exact List.forall_mem_cons.mpr ⟨va_Fw.of (hw _ (by decide +kernel)) (hw _ (by decide +kernel)) (hw _ (by decide +kernel)) (hw _ (by decide +kernel)) (hw _ (by decide +kernel)), List.forall_mem_cons.mpr ⟨va_Fw.of (hw _ (by decide +kernel)) (hw _ (by decide +kernel)) (hw _ (by decide +kernel)) (hw _ (by decide +kernel)) (hw _ (by decide +kernel)), List.forall_mem_cons.mpr ⟨va_Fw.of (hw _ (by decide +kernel)) (hw _ (by decide +kernel)) (hw _ (by decide +kernel)) (hw _ (by decide +kernel)) (hw _ (by decide +kernel)), List.forall_mem_cons.mpr ⟨va_Fw.of (hw _ (by decide +kernel)) (hw _ (by decide +kernel)) (hw _ (by decide +kernel)) (hw _ (by decide +kernel)) (hw _ (by decide +kernel)), List.forall_mem_cons.mpr ⟨va_Fw.of (hw _ (by decide +kernel)) (hw _ (by decide +kernel)) (hw _ (by decide +kernel)) (hw _ (by decide +kernel)) (hw _ (by decide +kernel)), List.forall_mem_cons.mpr ⟨va_Fw.of (hw _ (by decide +kernel)) (hw _ (by decide +kernel)) (hw _ (by decide +kernel)) (hw _ (by decide +kernel)) (hw _ (by decide +kernel)), List.forall_mem_cons.mpr ⟨va_Fw.of (hw _ (by decide +kernel)) (hw _ (by decide +kernel)) (hw _ (by decide +kernel)) (hw _ (by decide +kernel)) (hw _ (by decide +kernel)), fun _ h => absurd h List.not_mem_nil⟩⟩⟩⟩⟩⟩⟩
  · exact List.forall_mem_cons.mpr ⟨va_Nc.of (hs _ (by decide +kernel)), List.forall_mem_cons.mpr ⟨va_Nc.of (hs _ (by decide +kernel)), List.forall_mem_cons.mpr ⟨va_Nc.of (hs _ (by decide +kernel)), List.forall_mem_cons.mpr ⟨va_Nc.of (hs _ (by decide +kernel)), List.forall_mem_cons.mpr ⟨va_Nc.of (hs _ (by decide +kernel)), List.forall_mem_cons.mpr ⟨va_Nc.of (hs _ (by decide +kernel)), List.forall_mem_cons.mpr ⟨va_Nc.of (hs _ (by decide +kernel)), fun _ h => absurd h List.not_mem_nil⟩⟩⟩⟩⟩⟩⟩
  · exact vx_Zqof (hw _ (by decide +kernel)) (hw (.initialized Bundle.tN) (by decide +kernel)) (hs _ (by decide +kernel)) hA
  · exact vx_Zqof (hw _ (by decide +kernel)) (hw (.initialized Bundle.tN) (by decide +kernel)) (hs _ (by decide +kernel)) hA
  · exact va_Zof (hw _ (by decide +kernel)) (hw (.initialized "java/util/ArrayList") (by decide +kernel)) ht hA
  · exact va_Zof (hw _ (by decide +kernel)) (hw (.initialized "java/lang/String") (by decide +kernel)) (va_eqi (hs _ (by decide +kernel))) hA
  · exact va_Zqof (hw _ (by decide +kernel)) (hw (.initialized "jdk/internal/util/Preconditions") (by decide +kernel)) (hs _ (by decide +kernel)) hA
  · exact vk_R.of (hw _ (by decide +kernel)) (hev 0 (by decide))
  · exact vk_R.of (hw _ (by decide +kernel)) (hev 1 (by decide))
