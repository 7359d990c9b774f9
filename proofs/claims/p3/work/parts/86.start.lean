set_option maxHeartbeats 4000000 in
set_option maxRecDepth 100000 in
/-- the law from its entry to its loop -/
theorem lw_start (l : Launch) (hnt : l.stackTraces = false) {p : Program} {e : Env} {s : State} {m : MethodId} {below : List Frame} {meth : Method} {c : Code} {Q : State → Prop} {D : va_G} {tc : Nat → ClassId} {z0 b N : Nat} {xs : Nat → Int32} (C : lwC p s m meth c b N xs D tc z0) (hN8 : N ≤ 2048)
    (hend : ∀ (d : Drawn) (H : Heap) (locs : List Loc) (ls : Array Slot) (k n : Nat), s.drawn.sameBut d lw_cs → va_S (zA [] [] s.heap.size) s.heap H locs → k ≤ 841393 → n ≤ 6571924 → W p l e room_1 (s.setDrawn d) m #[Value.ref b] below meth c H locs k n Q (F0 m 1398 ls [])) :
    W p l e room_1 s m #[Value.ref b] below meth c s.heap [] 0 0 Q (entryFrame m ([Value.ref b] : List Value).toArray 9) := by
  obtain ⟨hx, hb, hml, hown, hts, hK, hE, hX, hbl⟩ := id C
  have hM : zM p s m c cL_law #[Value.ref b] wsL_law RL D tc := ⟨hx, hb, hts, hown, hK⟩
  have hI : zI D tc (zA [] [] s.heap.size) s.heap [] [] (fun _ => 99) (fun _ _ => .null) s.heap [] :=
    ⟨fun q hq => Or.inr (Or.inr hq), va_S.rf, fun _ => .inr (0, []), (fun k q h => by cases h), ⟨(fun i j x y h => by cases h), (fun k x h => by cases h)⟩, fun a h => absurd h (Nat.lt_irrefl 99)⟩
  have hl := lv_entry ([.ref b]) (n := 9) (Nat.le_of_ble_eq_true rfl)
  rw [lg_entry_eq]
  generalize (lg_sl ([.ref b]) ++ List.replicate (9 - (lg_sl ([.ref b])).length) Slot.unset).toArray = ls at hl ⊢
  have hl : lv_has ls 9 [(0, .ref b)] := hl
  refine z_new (ci := 10) (fs := [.null, .null, .null, .null, .null, .null, .null, .null, .int 0, .long 0]) (C := RX8) (T := TX8) (N := 10) hM hI inlX8 tyX8 tyX8_ok (by decide +kernel) (by decide +kernel) (by decide +kernel) rfl (by decide +kernel) (Nat.le_of_ble_eq_true rfl) (Nat.le_of_ble_eq_true rfl) dL_law_0 (fun px H hI => ?_)
  refine lv_dup hx hb dL_law_3 rfl ?_
  refine z_cvX (Xc := [(px, .inr (10, [.null, .null, .null, .null, .null, .null, .null, .null, .int 0, .long 0]))]) (wr := []) (rx := []) [0] [] rfl rfl rfl rfl (by decide) hI (va_runI (As := []) (rest := [.ref px]) ⟨hx, hb, hml, hown, hts⟩ (c_X8_init l D tc z0 _ _ _ _ px) (cwI 0 hts gL_law_X8_init rfl rfl rfl (hts (.initialized RX8) (by decide +kernel)) (hts (.methodLink RL 117 yX8_init) (by decide +kernel)) (hts (.instanceMethod yX8_init) (by decide +kernel)) rfl (by decide +kernel) ⟨(Nat.le_of_ble_eq_true rfl), (Nat.le_of_ble_eq_true rfl)⟩) (z_pre (Xc := [(px, .inr (10, [.null, .null, .null, .null, .null, .null, .null, .null, .int 0, .long 0]))]) hK hE hI [0] rfl rfl) rfl rfl hl.1 rfl (lv_room (Nat.le_of_ble_eq_true rfl)) dL_law_4 ⟨(Nat.le_of_ble_eq_true rfl), (Nat.le_of_ble_eq_true rfl)⟩) (fun u H locs hw hI => ?_)
  obtain ⟨L, κ, g⟩ := u
  obtain ⟨-, hkx, pr, pc, pt, pk, ps, pq, -, -, h1, k1, hn1, h2, k2, hn2, h3, k3, hk4, h4, k4, hs0, h5, k5, hq0, hq1, hq2, hq4, hq6, hx8⟩ := hw
  dsimp only at hkx h1 k1 hn1 h2 k2 hn2 h3 k3 hk4 h4 k4 hs0 h5 k5 hq0 hq1 hq2 hq4 hq6 hx8
  have hI : zI D tc (zA [] [] s.heap.size) s.heap [] L κ g H locs := hI
  refine lv_astore_n (lv' := [(1, .ref px), (0, .ref b)]) hx hb dL_law_7 rfl hl (by decide) rfl (fun ls hl => ?_)
  refine z_new (ci := 13) (fs := [.null, .null, .null, .null, .int 0, .int 0, .int 0, .int 0, .int 0, .int 0, .int 0, .int 0, .int 0, .int 0, .int 0, .int 0, .int 0, .int 0, .int 0, .long 0, .long 0, .long 0, .long 0, .long 0, .long 0, .int 0, .int 0]) (C := RX11) (T := TX11) (N := 27) hM hI inlX11 tyX11 tyX11_ok (by decide +kernel) (by decide +kernel) (by decide +kernel) rfl (by decide +kernel) (Nat.le_of_ble_eq_true rfl) (Nat.le_of_ble_eq_true rfl) dL_law_8 (fun pm H hI => ?_)
  refine lv_dup hx hb dL_law_11 rfl ?_
  refine z_cvX (Xc := [(pm, .inr (13, [.null, .null, .null, .null, .int 0, .int 0, .int 0, .int 0, .int 0, .int 0, .int 0, .int 0, .int 0, .int 0, .int 0, .int 0, .int 0, .int 0, .int 0, .long 0, .long 0, .long 0, .long 0, .long 0, .long 0, .int 0, .int 0]))]) (wr := []) (rx := []) [0] [] rfl rfl rfl rfl (by decide) hI (va_runI (As := []) (rest := [.ref pm]) ⟨hx, hb, hml, hown, hts⟩ (c_X11_init l D tc z0 _ _ _ _ pm) (cwI 0 hts gL_law_X11_init rfl rfl rfl (hts (.initialized RX11) (by decide +kernel)) (hts (.methodLink RL 120 yX11_init) (by decide +kernel)) (hts (.instanceMethod yX11_init) (by decide +kernel)) rfl (by decide +kernel) ⟨(Nat.le_of_ble_eq_true rfl), (Nat.le_of_ble_eq_true rfl)⟩) (z_pre (Xc := [(pm, .inr (13, [.null, .null, .null, .null, .int 0, .int 0, .int 0, .int 0, .int 0, .int 0, .int 0, .int 0, .int 0, .int 0, .int 0, .int 0, .int 0, .int 0, .int 0, .long 0, .long 0, .long 0, .long 0, .long 0, .long 0, .int 0, .int 0]))]) hK hE hI [0] rfl rfl) rfl rfl hl.1 rfl (lv_room (Nat.le_of_ble_eq_true rfl)) dL_law_12 ⟨(Nat.le_of_ble_eq_true rfl), (Nat.le_of_ble_eq_true rfl)⟩) (fun u H locs hw hI => ?_)
  obtain ⟨L1, κ1, g1⟩ := u
  obtain ⟨hx9, hkm, lc, lt, hMo, hm4, hm7, -, hm13, hm14, hm16, hm18, hm25, hm26⟩ := hw
  dsimp only at hx9 hkm hMo hm4 hm7 hm13 hm14 hm16 hm18 hm25 hm26
  have hI : zI D tc (zA [] [] s.heap.size) s.heap [] L1 κ1 g1 H locs := hI
  refine lv_astore_n (lv' := [(2, .ref pm), (1, .ref px), (0, .ref b)]) hx hb dL_law_15 rfl hl (by decide) rfl (fun ls hl => ?_)
  have hJ : zJ κ1 g1 z0 px pm pq pk ps pc pt 0 :=
    ⟨⟨⟨hx9.k hkx (by decide), hkm, hx9.k k5 (by decide), hx9.k k3 (by decide), hx9.k k4 (by decide), hx9.k k1 (by decide), hx9.k k2 (by decide)⟩, ⟨hx9.g hkx (by decide) h5, hx9.g hkx (by decide) h3, hx9.g hkx (by decide) h4, hx9.g hkx (by decide) h1, hx9.g hkx (by decide) h2⟩, ⟨hm4, by decide⟩, lc, z0, 0, 0, _, lt, z0, 0, 0, _, hMo, zSd.nil (fun j => hx9.g k1 (by decide) (hn1 j)), zSd.nil (fun j => hx9.g k2 (by decide) (hn2 j))⟩,
      (hx9.g k5 (by decide) hq0).trans hm18.symm, (hx9.g k5 (by decide) hq1).trans hm13.symm, (hx9.g k5 (by decide) hq2).trans hm14.symm, (hx9.g k5 (by decide) hq4).trans hm16.symm, (hx9.g k5 (by decide) hq6).trans hm26.symm, (hx9.g hkx (by decide) hx8).trans hm4.symm, (hx9.g k3 (by decide) hk4).trans hm25.symm, (hx9.g k4 (by decide) hs0).trans hm7.symm⟩
  refine lv_iconst (v := 1) hx hb dL_law_16 (by decide) ?_
  refine z_newa (ty := .long) (ti := 1) (n := 1) hM hI (by decide +kernel) rfl rfl (by intro C h; cases h) (1, .inr (.inl (fun _ => 0))) (fun cA => rfl) (by decide) (by decide) (by decide) (Nat.le_of_ble_eq_true rfl) (Nat.le_of_ble_eq_true rfl) dL_law_17 (fun po H hI => ?_)
  refine lv_astore_n (lv' := [(3, .ref po), (2, .ref pm), (1, .ref px), (0, .ref b)]) hx hb dL_law_19 rfl hl (by decide) rfl (fun ls hl => ?_)
  obtain ⟨L2, κ2, g2, hx2, hko, -, hI⟩ := z_poolG (k := 29) (fun _ => .long 0) hI (by decide) (fun κ9 g9 hκ9 hκ8 hg9 => Or.inr ⟨rfl, 1, 1, 1, (13, 0), fun j => .long 0, rfl, ⟨_, rfl, fun j hj => rfl⟩, fun j hj => ⟨(hg9 j).symm, _, rfl⟩⟩)
  have hJ := hJ.ext hx2
  refine lv_iconst (v := 1) hx hb dL_law_20 (by decide) ?_
  refine z_newa (ty := .double) (ti := 2) (n := 1) hM hI (by decide +kernel) rfl rfl (by intro C h; cases h) (1, .inr (.inr (.inr (.inl (fun _ => 0))))) (fun cA => rfl) (by decide) (by decide) (by decide) (Nat.le_of_ble_eq_true rfl) (Nat.le_of_ble_eq_true rfl) dL_law_21 (fun pd H hI => ?_)
  refine lv_astore (lv' := [(4, .ref pd), (3, .ref po), (2, .ref pm), (1, .ref px), (0, .ref b)]) hx hb dL_law_23 hl (by decide) rfl (fun ls hl => ?_)
  obtain ⟨L3, κ3, g3, hx3, hkd, -, hI⟩ := z_poolG (k := 30) (fun _ => .null) hI (by decide) (fun κ9 g9 hκ9 hκ8 hg9 => Or.inr ⟨rfl, 2, 1, 3, (8, 0), fun j => .double 0, rfl, ⟨_, rfl, fun j hj => rfl⟩, fun j hj => ⟨_, rfl⟩⟩)
  have hJ := hJ.ext hx3
  have hko := hx3.k hko (by decide)
  refine lv_iconst (v := 0) hx hb dL_law_25 (by decide) ?_
  refine lv_istore (lv' := [(5, .int 0), (4, .ref pd), (3, .ref po), (2, .ref pm), (1, .ref px), (0, .ref b)]) hx hb dL_law_26 hl (by decide) rfl (fun ls hl => ?_)
  refine W.widen (k := 60 + 20 * 0 + 37 * 0) (n := 400 + 120 * 0 + 162 * 0) (Nat.le_of_ble_eq_true rfl) (Nat.le_of_ble_eq_true rfl) ?_
  refine W.base ?_
  exact lw_loop l hnt C hN8 hend (N + 1) 0 0 s.drawn L3 κ3 g3 _ _ _ (by omega) (by omega) (Drawn.sameBut.refl _ _) hJ hko hkd hI (lv_sub hl [5, 4, 3, 2, 1, 0] rfl)
