set_option maxHeartbeats 4000000 in
set_option maxRecDepth 100000 in
/-- the law from its entry to its loop -/
theorem lw_start (l : Launch) (hnt : l.stackTraces = false) {p : Program} {e : Env} {s : State} {m : MethodId} {below : List Frame} {meth : Method} {c : Code} {Q : State → Prop} {D : va_G} {tc : Nat → ClassId} {z0 b N : Nat} {xs : Nat → Int32} (C : lwC p s m meth c b N xs D tc z0) (hN8 : N ≤ 2048)
    (hend : ∀ (d : Drawn) (H : Heap) (locs : List Loc) (ls : Array Slot) (k n : Nat), s.drawn.sameBut d lw_cs → va_S (zA [] [] s.heap.size) s.heap H locs → k ≤ 798071 → n ≤ 6701890 → W p l e room_1 (s.setDrawn d) m #[Value.ref b] below meth c H locs k n Q (F0 m 1370 ls [])) :
    W p l e room_1 s m #[Value.ref b] below meth c s.heap [] 0 0 Q (entryFrame m ([Value.ref b] : List Value).toArray 9) := by
  obtain ⟨hx, hb, hml, hown, hts, hK, hE, hX, hbl⟩ := id C
  have hM : zM p s m c cL_law #[Value.ref b] wsL_law RL D tc := ⟨hx, hb, hts, hown, hK⟩
  obtain ⟨κ, hκ0⟩ : ∃ κ : Nat → Nat, κ = fun _ => 99 := ⟨_, rfl⟩
  obtain ⟨g, hg0⟩ : ∃ g : Nat → Nat → Value, g = fun _ _ => .null := ⟨_, rfl⟩
  obtain ⟨L, hL0⟩ : ∃ L : List Nat, L = [] := ⟨_, rfl⟩
  obtain ⟨locs, hlc0⟩ : ∃ x : List Loc, x = [] := ⟨_, rfl⟩
  have hI : zI D tc (zA [] [] s.heap.size) s.heap [] L κ g s.heap [] := by
    subst hκ0 hg0 hL0
    exact ⟨fun q hq => Or.inr (Or.inr hq), va_S.rf, fun _ => .inr (0, []), (fun k q h => by cases h), ⟨(fun i j x y h => by cases h), (fun k x h => by cases h)⟩, fun a h => absurd h (Nat.lt_irrefl 99)⟩
  have hl := lv_entry ([.ref b]) (n := 9) (Nat.le_of_ble_eq_true rfl)
  rw [lg_entry_eq]
  generalize (lg_sl ([.ref b]) ++ List.replicate (9 - (lg_sl ([.ref b])).length) Slot.unset).toArray = ls at hl ⊢
  have hl : lv_has ls 9 [(0, .ref b)] := hl
  rw [← hlc0] at hI ⊢
  refine z_new (ci := 10) (fs := [.null, .null, .null, .null, .null, .null, .null, .null, .int 0, .long 0]) (C := RX8) (T := TX8) (N := 10) hM hI inlX8 tyX8 tyX8_ok (by decide +kernel) (by decide +kernel) (by decide +kernel) rfl (by decide +kernel) (Nat.le_of_ble_eq_true rfl) (Nat.le_of_ble_eq_true rfl) dL_law_0 (fun q1 H hI => ?_)
  have hI : zI D tc (zA [] [] s.heap.size) s.heap [(q1, .inr (10, [.null, .null, .null, .null, .null, .null, .null, .null, .int 0, .long 0]))] _ _ _ H locs := hI
  refine lv_dup hx hb dL_law_3 rfl ?_
  refine z_cvE (sel := fun u : Nat × Nat × Nat × Nat × Nat × Nat × Nat × Nat × Nat × Nat × Nat × Nat × Nat × Nat × Nat × Nat × Nat × Nat × Nat × Nat × zS => u.2.2.2.2.2.2.2.2.2.2.2.2.2.2.2.2.2.2.2.2) (rxf := fun u : Nat × Nat × Nat × Nat × Nat × Nat × Nat × Nat × Nat × Nat × Nat × Nat × Nat × Nat × Nat × Nat × Nat × Nat × Nat × Nat × zS => ([(q1, .inr (10, [.ref u.1, .ref u.2.1, .ref u.2.2.1, .ref u.2.2.2.1, .ref u.2.2.2.2.1, .ref u.2.2.2.2.2.2.1, .ref u.2.2.2.2.2.2.2.2.1, .ref u.2.2.2.2.2.2.2.2.2.2.1, .int 0, .long 0])), (u.1, .inl (tc 4, 3, .inr (.inr (.inr (.inr (va_up (va_up (va_up (fun _ => none) (0 : Int32).toNatClampNeg (some u.2.2.2.2.2.2.2.2.2.2.2.2.1)) (1 : Int32).toNatClampNeg (some u.2.2.2.2.2.2.2.2.2.2.2.2.2.2.1)) (2 : Int32).toNatClampNeg (some u.2.2.2.2.2.2.2.2.2.2.2.2.2.2.2.2.1))))))), (u.2.1, .inl (tc 3, 6, .inr (.inr (.inr (.inr (fun _ => none)))))), (u.2.2.1, .inl (tc 5, 8, .inr (.inr (.inr (.inr (fun _ => none)))))), (u.2.2.2.1, .inr (4, [.ref u.2.2.2.2.2.1, .ref u.2.2.2.2.2.2.2.1, .long 0, .int 0, .int 0])), (u.2.2.2.2.1, .inr (8, [.int 200, .int 5000, .int 600, .long 0, .long 0, .int 0, .long 0, .long 0, .long 0, .long 0])), (u.2.2.2.2.2.1, .inr (3, [.int 200, .ref u.2.2.2.2.2.2.2.2.2.1, .ref u.2.2.2.2.2.2.2.2.2.2.2.1])), (u.2.2.2.2.2.2.1, .inr (7, [.int 0, .int 0, .int 0, .int 0, .int 0, .int 0, .int 45])), (u.2.2.2.2.2.2.2.1, .inr (2, [.ref u.2.2.2.2.2.2.2.2.2.2.2.2.2.2.2.2.2.1, .int 1])), (u.2.2.2.2.2.2.2.2.1, .inr (2, [.ref u.2.2.2.2.2.2.2.2.2.2.2.2.2.2.2.2.2.2.1, .int 0])), (u.2.2.2.2.2.2.2.2.2.1, .inr (2, [.ref u.2.2.2.2.2.2.2.2.2.2.2.2.2.1, .int 1])), (u.2.2.2.2.2.2.2.2.2.2.1, .inr (2, [.ref u.2.2.2.2.2.2.2.2.2.2.2.2.2.2.2.2.2.2.2.1, .int 0])), (u.2.2.2.2.2.2.2.2.2.2.2.1, .inr (2, [.ref u.2.2.2.2.2.2.2.2.2.2.2.2.2.2.2.1, .int 1])), (u.2.2.2.2.2.2.2.2.2.2.2.2.1, .inr (6, [.int 500, .int 500])), (u.2.2.2.2.2.2.2.2.2.2.2.2.2.1, .inl (tc 1, 16, .inr (.inl (vp_updL (fun _ => 0) (0 : Int32).toNatClampNeg 4000)))), (u.2.2.2.2.2.2.2.2.2.2.2.2.2.2.1, .inr (6, [.int 500, .int 500])), (u.2.2.2.2.2.2.2.2.2.2.2.2.2.2.2.1, .inl (tc 1, 16, .inr (.inl (vp_updL (fun _ => 0) (0 : Int32).toNatClampNeg 20)))), (u.2.2.2.2.2.2.2.2.2.2.2.2.2.2.2.2.1, .inr (6, [.int 500, .int 500])), (u.2.2.2.2.2.2.2.2.2.2.2.2.2.2.2.2.2.1, .inl (tc 1, 16, .inr (.inl (vp_updL (fun _ => 0) (0 : Int32).toNatClampNeg 20)))), (u.2.2.2.2.2.2.2.2.2.2.2.2.2.2.2.2.2.2.1, .inl (tc 1, 16, .inr (.inl (fun _ => 0)))), (u.2.2.2.2.2.2.2.2.2.2.2.2.2.2.2.2.2.2.2.1, .inl (tc 1, 16, .inr (.inl (fun _ => 0))))] : va_W)) (Xc := ([(q1, .inr (10, [.null, .null, .null, .null, .null, .null, .null, .null, .int 0, .long 0]))] : va_W)) (wr := ([] : va_W)) [0] [] rfl rfl rfl rfl (by decide) hI (va_runI (As := []) (rest := [.ref q1]) ⟨hx, hb, hml, hown, hts⟩ (x_X8_init l D tc z0 _ κ g _ q1 ) (cwI 0 hts gL_law_X8_init rfl rfl rfl (hts (.initialized RX8) (by decide +kernel)) (hts (.methodLink RL 117 yX8_init) (by decide +kernel)) (hts (.instanceMethod yX8_init) (by decide +kernel)) rfl (by decide +kernel) ⟨Nat.le_of_ble_eq_true rfl, Nat.le_of_ble_eq_true rfl⟩) (z_pre (Xc := ([(q1, .inr (10, [.null, .null, .null, .null, .null, .null, .null, .null, .int 0, .long 0]))] : va_W)) hK hE hI [0] rfl rfl) rfl rfl hl.1 rfl (lv_room (Nat.le_of_ble_eq_true rfl)) dL_law_4 ⟨Nat.le_of_ble_eq_true rfl, Nat.le_of_ble_eq_true rfl⟩) (fun u H locs hw hI => ?_)
  obtain ⟨q2, q3, q4, q5, q6, q7, q8, q9, q10, q11, q12, q13, q14, q15, q16, q17, q18, q19, q20, q21, u⟩ := u
  dsimp only at hw hI
  obtain rfl := hw
  have hI : zI D tc (zA [] [] s.heap.size) s.heap [(q1, .inr (10, [.ref q2, .ref q3, .ref q4, .ref q5, .ref q6, .ref q8, .ref q10, .ref q12, .int 0, .long 0])), (q2, .inl (tc 4, 3, .inr (.inr (.inr (.inr (va_up (va_up (va_up (fun _ => none) (0 : Int32).toNatClampNeg (some q14)) (1 : Int32).toNatClampNeg (some q16)) (2 : Int32).toNatClampNeg (some q18))))))), (q3, .inl (tc 3, 6, .inr (.inr (.inr (.inr (fun _ => none)))))), (q4, .inl (tc 5, 8, .inr (.inr (.inr (.inr (fun _ => none)))))), (q5, .inr (4, [.ref q7, .ref q9, .long 0, .int 0, .int 0])), (q6, .inr (8, [.int 200, .int 5000, .int 600, .long 0, .long 0, .int 0, .long 0, .long 0, .long 0, .long 0])), (q7, .inr (3, [.int 200, .ref q11, .ref q13])), (q8, .inr (7, [.int 0, .int 0, .int 0, .int 0, .int 0, .int 0, .int 45])), (q9, .inr (2, [.ref q19, .int 1])), (q10, .inr (2, [.ref q20, .int 0])), (q11, .inr (2, [.ref q15, .int 1])), (q12, .inr (2, [.ref q21, .int 0])), (q13, .inr (2, [.ref q17, .int 1])), (q14, .inr (6, [.int 500, .int 500])), (q15, .inl (tc 1, 16, .inr (.inl (vp_updL (fun _ => 0) (0 : Int32).toNatClampNeg 4000)))), (q16, .inr (6, [.int 500, .int 500])), (q17, .inl (tc 1, 16, .inr (.inl (vp_updL (fun _ => 0) (0 : Int32).toNatClampNeg 20)))), (q18, .inr (6, [.int 500, .int 500])), (q19, .inl (tc 1, 16, .inr (.inl (vp_updL (fun _ => 0) (0 : Int32).toNatClampNeg 20)))), (q20, .inl (tc 1, 16, .inr (.inl (fun _ => 0)))), (q21, .inl (tc 1, 16, .inr (.inl (fun _ => 0))))] _ _ _ H locs := hI
  refine lv_astore_n (lv' := [(1, .ref q1), (0, .ref b)]) hx hb dL_law_7 rfl hl (by decide) rfl (fun ls hl => ?_)
  obtain ⟨L0, κ0, g0, hI, hx0, hkx, hSd⟩ := z_start42 (fun x => by rw [hκ0]) hI
  obtain ⟨⟨k0, k1, k2, k3, k4, k5, -⟩, ⟨l1, l2, l3, l4, l5, -⟩, -⟩ := id hSd.1
  have k0 : κ0 q1 = 10 := k0
  have k1 : κ0 q3 = 23 := k1
  have k2 : κ0 q4 = 24 := k2
  have k3 : κ0 q5 = 4 := k3
  have k4 : κ0 q6 = 8 := k4
  have k5 : κ0 q8 = 7 := k5
  have l1 : g0 q1 1 = .ref q3 := l1
  have l2 : g0 q1 2 = .ref q4 := l2
  have l3 : g0 q1 3 = .ref q5 := l3
  have l4 : g0 q1 4 = .ref q6 := l4
  have l5 : g0 q1 5 = .ref q8 := l5
  refine z_new (ci := 13) (fs := [.null, .null, .null, .null, .int 0, .int 0, .int 0, .int 0, .int 0, .int 0, .int 0, .int 0, .int 0, .int 0, .int 0, .int 0, .int 0, .int 0, .int 0, .long 0, .long 0, .long 0, .long 0, .long 0, .long 0, .int 0, .int 0]) (C := RX11) (T := TX11) (N := 27) hM hI inlX11 tyX11 tyX11_ok (by decide +kernel) (by decide +kernel) (by decide +kernel) rfl (by decide +kernel) (Nat.le_of_ble_eq_true rfl) (Nat.le_of_ble_eq_true rfl) dL_law_8 (fun pm H hI => ?_)
  refine lv_dup hx hb dL_law_11 rfl ?_
  refine z_cvX (Xc := [(pm, .inr (13, [.null, .null, .null, .null, .int 0, .int 0, .int 0, .int 0, .int 0, .int 0, .int 0, .int 0, .int 0, .int 0, .int 0, .int 0, .int 0, .int 0, .int 0, .long 0, .long 0, .long 0, .long 0, .long 0, .long 0, .int 0, .int 0]))]) (wr := []) (rx := []) [0] [] rfl rfl rfl rfl (by decide) hI (va_runI (As := []) (rest := [.ref pm]) ⟨hx, hb, hml, hown, hts⟩ (c_X11_init l D tc z0 _ _ _ _ pm) (cwI 0 hts gL_law_X11_init rfl rfl rfl (hts (.initialized RX11) (by decide +kernel)) (hts (.methodLink RL 120 yX11_init) (by decide +kernel)) (hts (.instanceMethod yX11_init) (by decide +kernel)) rfl (by decide +kernel) ⟨(Nat.le_of_ble_eq_true rfl), (Nat.le_of_ble_eq_true rfl)⟩) (z_pre (Xc := [(pm, .inr (13, [.null, .null, .null, .null, .int 0, .int 0, .int 0, .int 0, .int 0, .int 0, .int 0, .int 0, .int 0, .int 0, .int 0, .int 0, .int 0, .int 0, .int 0, .long 0, .long 0, .long 0, .long 0, .long 0, .long 0, .int 0, .int 0]))]) hK hE hI [0] rfl rfl) rfl rfl hl.1 rfl (lv_room (Nat.le_of_ble_eq_true rfl)) dL_law_12 ⟨(Nat.le_of_ble_eq_true rfl), (Nat.le_of_ble_eq_true rfl)⟩) (fun u H locs hw hI => ?_)
  obtain ⟨L1, κ1, g1⟩ := u
  obtain ⟨hx9, hkm, lc, lt, hMo, hm4, hm7, -, hm13, hm14, hm16, hm18, hm25, hm26⟩ := hw
  dsimp only at hx9 hkm hMo hm4 hm7 hm13 hm14 hm16 hm18 hm25 hm26
  have hI : zI D tc (zA [] [] s.heap.size) s.heap [] L1 κ1 g1 H locs := hI
  refine lv_astore_n (lv' := [(2, .ref pm), (1, .ref q1), (0, .ref b)]) hx hb dL_law_15 rfl hl (by decide) rfl (fun ls hl => ?_)
  have hJ : zJ κ1 g1 z0 q1 pm q8 0 0 :=
    ⟨⟨⟨hx9.k k0 (by decide), hkm, hx9.k k5 (by decide)⟩, hx9.g k0 (by decide) l5, ⟨hm4, by decide⟩, ⟨q3, hx9.k k1 (by decide), hx9.g k0 (by decide) l1⟩, ⟨q4, hx9.k k2 (by decide), hx9.g k0 (by decide) l2⟩, ⟨q5, hx9.k k3 (by decide), hx9.g k0 (by decide) l3⟩, ⟨q6, hx9.k k4 (by decide), hx9.g k0 (by decide) l4⟩, lc, z0, 0, 0, _, lt, z0, 0, 0, _, hMo⟩, _, _, _, _, _, _, _, rfl, hSd.fr hx9.1 (fun x j hz => hx9.2 x j hz.lt)⟩
  refine lv_iconst (v := 1) hx hb dL_law_16 (by decide) ?_
  refine z_newa (ty := .long) (ti := 1) (n := 1) hM hI (by decide +kernel) rfl rfl (by intro C h; cases h) (1, .inr (.inl (fun _ => 0))) (fun cA => rfl) (by decide) (by decide) (by decide) (Nat.le_of_ble_eq_true rfl) (Nat.le_of_ble_eq_true rfl) dL_law_17 (fun po H hI => ?_)
  refine lv_astore_n (lv' := [(3, .ref po), (2, .ref pm), (1, .ref q1), (0, .ref b)]) hx hb dL_law_19 rfl hl (by decide) rfl (fun ls hl => ?_)
  obtain ⟨L2, κ2, g2, hx2, hko, -, hI⟩ := z_poolG (k := 29) (fun _ => .long 0) hI (by decide) (fun κ9 g9 hκ9 hκ8 hg9 => Or.inr ⟨rfl, 1, 1, 1, (13, 0), fun j => .long 0, rfl, ⟨_, rfl, fun j hj => rfl⟩, fun j hj => ⟨(hg9 j).symm, _, rfl⟩⟩)
  have hJ := hJ.ext hx2
  refine lv_iconst (v := 1) hx hb dL_law_20 (by decide) ?_
  refine z_newa (ty := .double) (ti := 2) (n := 1) hM hI (by decide +kernel) rfl rfl (by intro C h; cases h) (1, .inr (.inr (.inr (.inl (fun _ => 0))))) (fun cA => rfl) (by decide) (by decide) (by decide) (Nat.le_of_ble_eq_true rfl) (Nat.le_of_ble_eq_true rfl) dL_law_21 (fun pd H hI => ?_)
  refine lv_astore (lv' := [(4, .ref pd), (3, .ref po), (2, .ref pm), (1, .ref q1), (0, .ref b)]) hx hb dL_law_23 hl (by decide) rfl (fun ls hl => ?_)
  obtain ⟨L3, κ3, g3, hx3, hkd, -, hI⟩ := z_poolG (k := 30) (fun _ => .null) hI (by decide) (fun κ9 g9 hκ9 hκ8 hg9 => Or.inr ⟨rfl, 2, 1, 3, (8, 0), fun j => .double 0, rfl, ⟨_, rfl, fun j hj => rfl⟩, fun j hj => ⟨_, rfl⟩⟩)
  have hJ := hJ.ext hx3
  have hko := hx3.k hko (by decide)
  refine lv_iconst (v := 0) hx hb dL_law_25 (by decide) ?_
  refine lv_istore (lv' := [(5, .int 0), (4, .ref pd), (3, .ref po), (2, .ref pm), (1, .ref q1), (0, .ref b)]) hx hb dL_law_26 hl (by decide) rfl (fun ls hl => ?_)
  refine W.widen (k := 60 + 20 * 0 + 37 * 0) (n := 400 + 120 * 0 + 162 * 0) (Nat.le_of_ble_eq_true rfl) (Nat.le_of_ble_eq_true rfl) ?_
  refine W.base ?_
  exact lw_loop l hnt C hN8 hend (N + 1) 0 0 s.drawn L3 κ3 g3 _ _ _ (by omega) (by omega) (Drawn.sameBut.refl _ _) hJ hko hkd hI (lv_sub hl [5, 4, 3, 2, 1, 0] rfl)
