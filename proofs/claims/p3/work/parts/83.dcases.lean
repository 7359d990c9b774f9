theorem lwC.dr {p : Program} {s : State} {m : MethodId} {meth : Method} {c : Code} {D : va_G} {tc : Nat → ClassId} {z0 b N : Nat} {xs : Nat → Int32} (C : lwC p s m meth c b N xs D tc z0) (d : Drawn) : lwC p (s.setDrawn d) m meth c b N xs D tc z0 := by
  obtain ⟨hx, hb, hml, hown, hts, hK, hE, hX, hbl⟩ := C
  exact ⟨hx, hb, hml, hown, dr_words hts d, hK, hE.next (locs := []) (State.WarmedH.refl s) va_S.rf (fun _ h => h), hX, hbl⟩
set_option maxHeartbeats 4000000 in
set_option maxRecDepth 100000 in
theorem k_busyShare2 (l : Launch) (hnt : l.stackTraces = false) {p : Program} {e : Env} {s : State} {m : MethodId} {below : List Frame} {meth : Method} {c : Code} {H : Heap} {locs : List Loc} {Q : State → Prop} {D : va_G} {tc : Nat → ClassId} {z0 b N : Nat} {xs : Nat → Int32} {px pm po pd rq co sp aC aT t k : Nat} {L : List Nat} {κ : Nat → Nat} {g : Nat → Nat → Value} {ls : Array Slot} (C : lwC p s m meth c b N xs D tc z0) (hk : 4 * k + 4 ≤ N) (hN8 : N ≤ 2048) (hJ : zJ κ g z0 px pm rq co sp aC aT t) (hko : κ po = 29) (hkd : κ pd = 30) (hI : zI D tc (zA [] [] s.heap.size) s.heap [] L κ g H locs) (hl : lv_has ls 9 [(0, .ref b), (1, .ref px), (2, .ref pm), (3, .ref po), (4, .ref pd), (5, .int (nI (4 * k)))]) (hN : lwN p l e s m below meth c b D tc z0 px pm po pd rq co sp aC aT k Q) (d : Drawn) (hd : s.drawn.sameBut d lw_cs) (n n2 : Nat) (hn : n ≤ 1) (hn2 : n2 ≤ 6) (v : Int32) : W p l e room_1 (s.setDrawn d) m #[Value.ref b] below meth c H locs (60 + 20 * k + 37 * t + n) (400 + 120 * k + 162 * t + n2) Q (F0 m 1351 ls [.int v]) := by
  obtain ⟨hx, hb, hml, hown, hts, hK, hE, hX, hbl⟩ := C.dr d
  have htb9 : t ≤ 9999 := hJ.1.2.2.1.2
  obtain ⟨⟨⟨hkx, hkm, hkq, hkO, hkS, hkC, hkT⟩, ⟨hR, hO, hS9, hC, hT⟩, ⟨htM, htb⟩, lc, eC, nC, mC, cf, lt, eT, nT, mT, tf, hMo, hCo, hTh⟩, a0, a1, a2, a3, a4, a5, a6, a7⟩ := id hJ
  refine lv_istore (lv' := [(6, .int v), (0, .ref b), (1, .ref px), (2, .ref pm), (3, .ref po), (4, .ref pd), (5, .int (nI (4 * k)))]) hx hb dL_law_1351 hl (by decide) rfl (fun ls hl => ?_)
  refine lv_aload_n hx hb dL_law_1353 rfl (lv_at hl 3 rfl) ?_
  refine va_callfD hd (va_runV_D (As := []) (rest := []) ⟨hx, hb, hml, hown, hts⟩ (c_X11_busyShare l D tc z0 _ κ g _ pm hkm lc eC nC mC cf lt eT nT mT tf hMo) (cwV 0 hts gL_law_X11_busyShare rfl rfl rfl (by decide +kernel) ⟨Nat.le_of_ble_eq_true rfl, Nat.le_of_ble_eq_true rfl⟩) (z_preV (Xc := []) hK hE hI [] rfl rfl (z_recv hK hI hkm rfl rfl)) rfl rfl hl.1 rfl (lv_room (Nat.le_of_ble_eq_true rfl)) dL_law_1354 ⟨(show 60 + 20 * k + 37 * t + n + 7 ≤ 841393 from by omega), (show 400 + 120 * k + 162 * t + n2 + 28 ≤ 6571924 from by omega)⟩) hI.2.1 (fun q _ h => z_sub hI [] rfl rfl q h) (z_sub hI [] rfl rfl) (fun w u t3 H locs ht hvm hw hB hz1 hk1 hS1 d2 hd2 => ?_)
  have hI := z_back hI ht hB hS1
  obtain ⟨x9, rfl⟩ := hw
  have hJ := hJ.upM (j := 12) (v := .int x9) (by decide)
  have hI : zI D tc (zA [] [] s.heap.size) s.heap [] L κ (zup g pm 12 (.int x9)) H locs := hI
  refine lv_fstore (lv' := [(7, .float w), (6, .int v), (0, .ref b), (1, .ref px), (2, .ref pm), (3, .ref po), (4, .ref pd), (5, .int (nI (4 * k)))]) hx hb dL_law_1357 hl (by decide) rfl (fun ls hl => ?_)
  refine lv_goto (tgt := 1392) hx hb dL_law_1359 (by decide) ?_
  refine W.widen (k := 60 + 20 * (k + 1) + 37 * t) (n := 400 + 120 * (k + 1) + 162 * t) (by omega) (by omega) ?_
  exact hN d2 L κ _ _ _ _ _ hd2 hJ hko hkd hI (lv_sub hl [2, 3, 4, 5, 6, 7] rfl)

set_option maxHeartbeats 4000000 in
set_option maxRecDepth 100000 in
theorem k_busyShare (l : Launch) (hnt : l.stackTraces = false) {p : Program} {e : Env} {s : State} {m : MethodId} {below : List Frame} {meth : Method} {c : Code} {H : Heap} {locs : List Loc} {Q : State → Prop} {D : va_G} {tc : Nat → ClassId} {z0 b N : Nat} {xs : Nat → Int32} {px pm po pd rq co sp aC aT t k : Nat} {L : List Nat} {κ : Nat → Nat} {g : Nat → Nat → Value} {ls : Array Slot} (C : lwC p s m meth c b N xs D tc z0) (hk : 4 * k + 4 ≤ N) (hN8 : N ≤ 2048) (hJ : zJ κ g z0 px pm rq co sp aC aT t) (hko : κ po = 29) (hkd : κ pd = 30) (hI : zI D tc (zA [] [] s.heap.size) s.heap [] L κ g H locs) (hl : lv_has ls 9 [(0, .ref b), (1, .ref px), (2, .ref pm), (3, .ref po), (4, .ref pd), (5, .int (nI (4 * k)))]) (hN : lwN p l e s m below meth c b D tc z0 px pm po pd rq co sp aC aT k Q) : W p l e room_1 s m #[Value.ref b] below meth c H locs (60 + 20 * k + 37 * t) (400 + 120 * k + 162 * t) Q (F0 m 1345 ls []) := by
  obtain ⟨hx, hb, hml, hown, hts, hK, hE, hX, hbl⟩ := id C
  have htb9 : t ≤ 9999 := hJ.1.2.2.1.2
  obtain ⟨⟨⟨hkx, hkm, hkq, hkO, hkS, hkC, hkT⟩, ⟨hR, hO, hS9, hC, hT⟩, ⟨htM, htb⟩, lc, eC, nC, mC, cf, lt, eT, nT, mT, tf, hMo, hCo, hTh⟩, a0, a1, a2, a3, a4, a5, a6, a7⟩ := id hJ
  refine lv_aload_n hx hb dL_law_1345 rfl (lv_at hl 1 rfl) ?_
  refine lv_aload hx hb dL_law_1346 (lv_at hl 4 rfl) ?_
  by_cases hs9 : ∃ j : Nat, j < 6 ∧ g aC j ≠ .null
  · refine W.base ?_
    refine va_calliD (Drawn.sameBut.refl _ _) (z_runSD (As := [.ref px, .ref pd]) (rest := []) ⟨hx, hb, hml, hown, dr_words hts _⟩ (c_L_busyShare l hnt D tc z0 _ κ g _ px hkx pd hkd aC hC hs9) (vx_cwSW 2 (dr_words hts _) gL_law_L_busyShare rfl rfl rfl (by decide +kernel) ⟨Nat.le_of_ble_eq_true rfl, Nat.le_of_ble_eq_true rfl⟩) (z_pre (Xc := []) hK (hE.next (locs := []) (State.WarmedH.refl s) va_S.rf (fun _ h => h)) hI [] rfl rfl) rfl rfl hl.1 rfl (lv_room (Nat.le_of_ble_eq_true rfl)) dL_law_1348 ⟨(show 60 + 20 * k + 37 * t + 0 ≤ 841393 from by omega), (show 400 + 120 * k + 162 * t + 0 ≤ 6571924 from by omega)⟩) hI.2.1 (fun q _ h => z_sub hI [] rfl rfl q h) (z_sub hI [] rfl rfl) (fun v u t3 H locs ht hvm hw hB hz1 hk1 hS1 d2 hd2 => ?_)
    have hI := z_back hI ht hB hS1
    obtain ⟨rfl, rfl⟩ := hw
    exact k_busyShare2 l hnt C hk hN8 hJ hko hkd hI hl hN d2 hd2 0 0 (by decide) (by decide) 0
  · have hn9 : ∀ j : Nat, j < 6 → g aC j = .null := fun j hj => Classical.not_not.mp fun h => hs9 ⟨j, hj, h⟩
    refine z_xi hI (vx_runSX (As := [.ref px, .ref pd]) (rest := []) ⟨hx, hb, hml, hown, hts⟩ (c_L_busyShare_no l hnt D tc z0 _ κ g _ px hkx pd hkd aC hC hn9) (vx_cwSW 2 hts gL_law_L_busyShare rfl rfl rfl (by decide +kernel) ⟨Nat.le_of_ble_eq_true rfl, Nat.le_of_ble_eq_true rfl⟩) (z_pre (Xc := []) hK hE hI [] rfl rfl) rfl rfl hl.1 rfl (lv_room (Nat.le_of_ble_eq_true rfl)) dL_law_1348 ⟨(show 60 + 20 * k + 37 * t + 1 ≤ 841393 from by omega), (show 400 + 120 * k + 162 * t + 6 ≤ 6571924 from by omega)⟩) (fun E ce q9 u H locs hw hI he1 he2 he3 => hw.elim) (fun v u H locs hw hI => ?_)
    obtain ⟨rfl, rfl⟩ := hw
    refine W.base ?_
    exact k_busyShare2 l hnt C hk hN8 hJ hko hkd hI hl hN s.drawn (Drawn.sameBut.refl _ _) 1 6 (by decide) (by decide) 1

set_option maxHeartbeats 4000000 in
set_option maxRecDepth 100000 in
theorem k_meanDegrees2 (l : Launch) (hnt : l.stackTraces = false) {p : Program} {e : Env} {s : State} {m : MethodId} {below : List Frame} {meth : Method} {c : Code} {H : Heap} {locs : List Loc} {Q : State → Prop} {D : va_G} {tc : Nat → ClassId} {z0 b N : Nat} {xs : Nat → Int32} {px pm po pd rq co sp aC aT t k : Nat} {L : List Nat} {κ : Nat → Nat} {g : Nat → Nat → Value} {ls : Array Slot} (C : lwC p s m meth c b N xs D tc z0) (hk : 4 * k + 4 ≤ N) (hN8 : N ≤ 2048) (hJ : zJ κ g z0 px pm rq co sp aC aT t) (hko : κ po = 29) (hkd : κ pd = 30) (hI : zI D tc (zA [] [] s.heap.size) s.heap [] L κ g H locs) (hl : lv_has ls 9 [(0, .ref b), (1, .ref px), (2, .ref pm), (3, .ref po), (4, .ref pd), (5, .int (nI (4 * k)))]) (hN : lwN p l e s m below meth c b D tc z0 px pm po pd rq co sp aC aT k Q) (d : Drawn) (hd : s.drawn.sameBut d lw_cs) (n n2 : Nat) (hn : n ≤ 1) (hn2 : n2 ≤ 6) (v : Int32) : W p l e room_1 (s.setDrawn d) m #[Value.ref b] below meth c H locs (60 + 20 * k + 37 * t + n) (400 + 120 * k + 162 * t + n2) Q (F0 m 1368 ls [.int v]) := by
  obtain ⟨hx, hb, hml, hown, hts, hK, hE, hX, hbl⟩ := C.dr d
  have htb9 : t ≤ 9999 := hJ.1.2.2.1.2
  obtain ⟨⟨⟨hkx, hkm, hkq, hkO, hkS, hkC, hkT⟩, ⟨hR, hO, hS9, hC, hT⟩, ⟨htM, htb⟩, lc, eC, nC, mC, cf, lt, eT, nT, mT, tf, hMo, hCo, hTh⟩, a0, a1, a2, a3, a4, a5, a6, a7⟩ := id hJ
  refine lv_istore (lv' := [(6, .int v), (0, .ref b), (1, .ref px), (2, .ref pm), (3, .ref po), (4, .ref pd), (5, .int (nI (4 * k)))]) hx hb dL_law_1368 hl (by decide) rfl (fun ls hl => ?_)
  refine lv_aload_n hx hb dL_law_1370 rfl (lv_at hl 3 rfl) ?_
  refine va_calldD hd (va_runV_D (As := []) (rest := []) ⟨hx, hb, hml, hown, hts⟩ (c_X11_meanDegrees l D tc z0 _ κ g _ pm hkm lc eC nC mC cf lt eT nT mT tf hMo) (cwV 0 hts gL_law_X11_meanDegrees rfl rfl rfl (by decide +kernel) ⟨Nat.le_of_ble_eq_true rfl, Nat.le_of_ble_eq_true rfl⟩) (z_preV (Xc := []) hK hE hI [] rfl rfl (z_recv hK hI hkm rfl rfl)) rfl rfl hl.1 rfl (lv_room (Nat.le_of_ble_eq_true rfl)) dL_law_1371 ⟨(show 60 + 20 * k + 37 * t + n + 1 ≤ 841393 from by omega), (show 400 + 120 * k + 162 * t + n2 + 4 ≤ 6571924 from by omega)⟩) hI.2.1 (fun q _ h => z_sub hI [] rfl rfl q h) (z_sub hI [] rfl rfl) (fun w u t3 H locs ht hvm hw hB hz1 hk1 hS1 d2 hd2 => ?_)
  have hI := z_back hI ht hB hS1
  obtain ⟨x9, rfl⟩ := hw
  have hJ := hJ.upM (j := 12) (v := .int x9) (by decide)
  have hI : zI D tc (zA [] [] s.heap.size) s.heap [] L κ (zup g pm 12 (.int x9)) H locs := hI
  refine lv_dstore (lv' := [(7, .double w), (6, .int v), (0, .ref b), (1, .ref px), (2, .ref pm), (3, .ref po), (4, .ref pd), (5, .int (nI (4 * k)))]) hx hb dL_law_1374 hl (by decide) rfl (fun ls hl => ?_)
  refine lv_goto (tgt := 1392) hx hb dL_law_1376 (by decide) ?_
  refine W.widen (k := 60 + 20 * (k + 1) + 37 * t) (n := 400 + 120 * (k + 1) + 162 * t) (by omega) (by omega) ?_
  exact hN d2 L κ _ _ _ _ _ hd2 hJ hko hkd hI (lv_sub hl [2, 3, 4, 5, 6, 7] rfl)

set_option maxHeartbeats 4000000 in
set_option maxRecDepth 100000 in
theorem k_meanDegrees (l : Launch) (hnt : l.stackTraces = false) {p : Program} {e : Env} {s : State} {m : MethodId} {below : List Frame} {meth : Method} {c : Code} {H : Heap} {locs : List Loc} {Q : State → Prop} {D : va_G} {tc : Nat → ClassId} {z0 b N : Nat} {xs : Nat → Int32} {px pm po pd rq co sp aC aT t k : Nat} {L : List Nat} {κ : Nat → Nat} {g : Nat → Nat → Value} {ls : Array Slot} (C : lwC p s m meth c b N xs D tc z0) (hk : 4 * k + 4 ≤ N) (hN8 : N ≤ 2048) (hJ : zJ κ g z0 px pm rq co sp aC aT t) (hko : κ po = 29) (hkd : κ pd = 30) (hI : zI D tc (zA [] [] s.heap.size) s.heap [] L κ g H locs) (hl : lv_has ls 9 [(0, .ref b), (1, .ref px), (2, .ref pm), (3, .ref po), (4, .ref pd), (5, .int (nI (4 * k)))]) (hN : lwN p l e s m below meth c b D tc z0 px pm po pd rq co sp aC aT k Q) : W p l e room_1 s m #[Value.ref b] below meth c H locs (60 + 20 * k + 37 * t) (400 + 120 * k + 162 * t) Q (F0 m 1362 ls []) := by
  obtain ⟨hx, hb, hml, hown, hts, hK, hE, hX, hbl⟩ := id C
  have htb9 : t ≤ 9999 := hJ.1.2.2.1.2
  obtain ⟨⟨⟨hkx, hkm, hkq, hkO, hkS, hkC, hkT⟩, ⟨hR, hO, hS9, hC, hT⟩, ⟨htM, htb⟩, lc, eC, nC, mC, cf, lt, eT, nT, mT, tf, hMo, hCo, hTh⟩, a0, a1, a2, a3, a4, a5, a6, a7⟩ := id hJ
  refine lv_aload_n hx hb dL_law_1362 rfl (lv_at hl 1 rfl) ?_
  refine lv_aload hx hb dL_law_1363 (lv_at hl 4 rfl) ?_
  by_cases hs9 : ∃ j : Nat, j < 6 ∧ g aC j ≠ .null
  · refine W.base ?_
    refine va_calliD (Drawn.sameBut.refl _ _) (z_runSD (As := [.ref px, .ref pd]) (rest := []) ⟨hx, hb, hml, hown, dr_words hts _⟩ (c_L_meanDegrees l hnt D tc z0 _ κ g _ px hkx pd hkd aC hC hs9) (vx_cwSW 2 (dr_words hts _) gL_law_L_meanDegrees rfl rfl rfl (by decide +kernel) ⟨Nat.le_of_ble_eq_true rfl, Nat.le_of_ble_eq_true rfl⟩) (z_pre (Xc := []) hK (hE.next (locs := []) (State.WarmedH.refl s) va_S.rf (fun _ h => h)) hI [] rfl rfl) rfl rfl hl.1 rfl (lv_room (Nat.le_of_ble_eq_true rfl)) dL_law_1365 ⟨(show 60 + 20 * k + 37 * t + 0 ≤ 841393 from by omega), (show 400 + 120 * k + 162 * t + 0 ≤ 6571924 from by omega)⟩) hI.2.1 (fun q _ h => z_sub hI [] rfl rfl q h) (z_sub hI [] rfl rfl) (fun v u t3 H locs ht hvm hw hB hz1 hk1 hS1 d2 hd2 => ?_)
    have hI := z_back hI ht hB hS1
    obtain ⟨rfl, rfl⟩ := hw
    exact k_meanDegrees2 l hnt C hk hN8 hJ hko hkd hI hl hN d2 hd2 0 0 (by decide) (by decide) 0
  · have hn9 : ∀ j : Nat, j < 6 → g aC j = .null := fun j hj => Classical.not_not.mp fun h => hs9 ⟨j, hj, h⟩
    refine z_xi hI (vx_runSX (As := [.ref px, .ref pd]) (rest := []) ⟨hx, hb, hml, hown, hts⟩ (c_L_meanDegrees_no l hnt D tc z0 _ κ g _ px hkx pd hkd aC hC hn9) (vx_cwSW 2 hts gL_law_L_meanDegrees rfl rfl rfl (by decide +kernel) ⟨Nat.le_of_ble_eq_true rfl, Nat.le_of_ble_eq_true rfl⟩) (z_pre (Xc := []) hK hE hI [] rfl rfl) rfl rfl hl.1 rfl (lv_room (Nat.le_of_ble_eq_true rfl)) dL_law_1365 ⟨(show 60 + 20 * k + 37 * t + 1 ≤ 841393 from by omega), (show 400 + 120 * k + 162 * t + 6 ≤ 6571924 from by omega)⟩) (fun E ce q9 u H locs hw hI he1 he2 he3 => hw.elim) (fun v u H locs hw hI => ?_)
    obtain ⟨rfl, rfl⟩ := hw
    refine W.base ?_
    exact k_meanDegrees2 l hnt C hk hN8 hJ hko hkd hI hl hN s.drawn (Drawn.sameBut.refl _ _) 1 6 (by decide) (by decide) 1

