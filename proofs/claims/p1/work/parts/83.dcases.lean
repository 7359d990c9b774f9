theorem lwC.dr {p : Program} {s : State} {m : MethodId} {meth : Method} {c : Code} {D : va_G} {tc : Nat → ClassId} {z0 b N : Nat} {xs : Nat → Int32} (C : lwC p s m meth c b N xs D tc z0) (d : Drawn) : lwC p (s.setDrawn d) m meth c b N xs D tc z0 := by
  obtain ⟨hx, hb, hml, hown, hts, hK, hE, hX, hbl⟩ := C
  exact ⟨hx, hb, hml, hown, dr_words hts d, hK, hE.next (locs := []) (State.WarmedH.refl s) va_S.rf (fun _ h => h), hX, hbl⟩
set_option maxHeartbeats 4000000 in
set_option maxRecDepth 100000 in
theorem k_busyShare (l : Launch) (hnt : l.stackTraces = false) {p : Program} {e : Env} {s : State} {m : MethodId} {below : List Frame} {meth : Method} {c : Code} {H : Heap} {locs : List Loc} {Q : State → Prop} {D : va_G} {tc : Nat → ClassId} {z0 b N : Nat} {xs : Nat → Int32} {px pm po pd rq co sp aC aT t k : Nat} {L : List Nat} {κ : Nat → Nat} {g : Nat → Nat → Value} {ls : Array Slot} (C : lwC p s m meth c b N xs D tc z0) (hk : 4 * k + 4 ≤ N) (hN8 : N ≤ 2048) (hJ : zJ κ g z0 px pm rq co sp aC aT t) (h0 : (∀ j, g aC j = .null) ∧ ∀ j, g aT j = .null) (hko : κ po = 29) (hkd : κ pd = 30) (hI : zI D tc (zA [] [] s.heap.size) s.heap [] L κ g H locs) (hl : lv_has ls 9 [(0, .ref b), (1, .ref px), (2, .ref pm), (3, .ref po), (4, .ref pd), (5, .int (nI (4 * k)))]) (hN : lwN p l e s m below meth c b D tc z0 px pm po pd rq co sp aC aT k Q) : W p l e room_1 s m #[Value.ref b] below meth c H locs (60 + 20 * k + 37 * t) (400 + 120 * k + 162 * t) Q (F0 m 2108 ls []) := by
  obtain ⟨hx, hb, hml, hown, hts, hK, hE, hX, hbl⟩ := id C
  have htb9 : t ≤ 9999 := hJ.1.2.2.1.2
  obtain ⟨⟨⟨hkx, hkm, hkq, hkO, hkS, hkC, hkT⟩, ⟨hR, hO, hS9, hC, hT⟩, ⟨htM, htb⟩, lc, eC, nC, mC, cf, lt, eT, nT, mT, tf, hMo, hCo, hTh⟩, a0, a1, a2, a3, a4, a5, a6, a7⟩ := id hJ
  have hn0 : nC = 0 := hCo.zero h0.1
  refine lv_aload_n hx hb dL_law_2108 rfl (lv_at hl 1 rfl) ?_
  refine lv_aload hx hb dL_law_2109 (lv_at hl 4 rfl) ?_
  have hn9 : ∀ j : Nat, j < 6 → g aC j = .null := fun j _ => h0.1 j
  refine z_xi hI (vx_runSX (As := [.ref px, .ref pd]) (rest := []) ⟨hx, hb, hml, hown, hts⟩ (c_L_busyShare_no l hnt D tc z0 _ κ g _ px hkx pd hkd aC hC hn9) (vx_cwSW 2 hts gL_law_L_busyShare rfl rfl rfl (by decide +kernel) ⟨Nat.le_of_ble_eq_true rfl, Nat.le_of_ble_eq_true rfl⟩) (z_pre (Xc := []) hK hE hI [] rfl rfl) rfl rfl hl.1 rfl (lv_room (Nat.le_of_ble_eq_true rfl)) dL_law_2111 ⟨(show 60 + 20 * k + 37 * t + 1 ≤ 746514 from by omega), (show 400 + 120 * k + 162 * t + 6 ≤ 6862693 from by omega)⟩) (fun E ce q9 u H locs hw hI he1 he2 he3 => hw.elim) (fun v u H locs hw hI => ?_)
  obtain ⟨rfl, rfl⟩ := hw
  have hI : zI D tc (zA [] [] s.heap.size) s.heap [] L κ g H locs := hI
  refine lv_istore (lv' := [(6, .int 1), (0, .ref b), (1, .ref px), (2, .ref pm), (3, .ref po), (4, .ref pd), (5, .int (nI (4 * k)))]) hx hb dL_law_2114 hl (by decide) rfl (fun ls hl => ?_)
  refine lv_aload_n hx hb dL_law_2116 rfl (lv_at hl 3 rfl) ?_
  refine W.base ?_
  have C2 := C.dr s.drawn
  obtain ⟨hx, hb, hml, hown, hts, hK, hE, hX, hbl⟩ := id C2
  refine va_callfD (Drawn.sameBut.refl _ _) (va_runV_D (As := []) (rest := []) ⟨hx, hb, hml, hown, hts⟩ (c_X11_busyShare l D tc z0 _ κ g _ pm hkm lc eC nC mC cf lt eT nT mT tf hMo) (cwV 0 hts gL_law_X11_busyShare rfl rfl rfl (by decide +kernel) ⟨Nat.le_of_ble_eq_true rfl, Nat.le_of_ble_eq_true rfl⟩) (z_preV (Xc := []) hK hE hI [] rfl rfl (z_recv hK hI hkm rfl rfl)) rfl rfl hl.1 rfl (lv_room (Nat.le_of_ble_eq_true rfl)) dL_law_2117 ⟨(show 60 + 20 * k + 37 * t + 1 + 7 ≤ 746514 from by omega), (show 400 + 120 * k + 162 * t + 6 + 28 ≤ 6862693 from by omega)⟩) hI.2.1 (fun q _ h => z_sub hI [] rfl rfl q h) (z_sub hI [] rfl rfl) (fun w u t3 H locs ht hvm hw hB hz1 hk1 hS1 d2 hd2 => ?_)
  have hI := z_back hI ht hB hS1
  obtain ⟨v8, hv8, rfl⟩ := hw
  obtain rfl : v8 = 1 := hv8 hn0
  have hJ := hJ.upM (j := 12) (v := .int 1) (by decide)
  have hcd : (zup g pm 12 (.int 1)) pm 12 = .int 1 := zup_self _ _ _ _
  have hI : zI D tc (zA [] [] s.heap.size) s.heap [] L κ (zup g pm 12 (.int 1)) H locs := hI
  generalize (zup g pm 12 (.int 1)) = g3 at hI hJ hcd
  obtain ⟨hx, hb, hml, hown, hts, hK, hE, hX, hbl⟩ := C.dr d2
  refine lv_fstore (lv' := [(7, .float w), (6, .int 1), (0, .ref b), (1, .ref px), (2, .ref pm), (3, .ref po), (4, .ref pd), (5, .int (nI (4 * k)))]) hx hb dL_law_2120 hl (by decide) rfl (fun ls hl => ?_)
  refine lv_aload_n hx hb dL_law_2122 rfl (lv_at hl 4 rfl) ?_
  refine z_ci (s := s.setDrawn d2) hI (va_runV (As := []) (rest := []) ⟨hx, hb, hml, hown, hts⟩ (c_X11_thrown l D tc z0 _ κ g3 _ pm hkm) (cwV 0 hts gL_law_X11_thrown rfl rfl rfl (by decide +kernel) ⟨Nat.le_of_ble_eq_true rfl, Nat.le_of_ble_eq_true rfl⟩) (z_preV (Xc := []) hK hE hI [] rfl rfl (z_recv hK hI hkm rfl rfl)) rfl rfl hl.1 rfl (lv_room (Nat.le_of_ble_eq_true rfl)) dL_law_2123 ⟨(show 60 + 20 * k + 37 * t + 1 + 7 + 0 ≤ 746514 from by omega), (show 400 + 120 * k + 162 * t + 6 + 28 + 0 ≤ 6862693 from by omega)⟩) (fun w2 u H locs hw hI => ?_)
  obtain ⟨hw2, rfl⟩ := hw
  have hI : zI D tc (zA [] [] s.heap.size) s.heap [] L κ g3 H locs := hI
  obtain rfl : w2 = 1 := Value.int.inj (hw2.symm.trans hcd)
  refine lv_iload hx hb dL_law_2126 (lv_at hl 1 rfl) ?_
  refine lv_icmp_eq (tgt := 2133) hx hb dL_law_2128 (by decide) (fun _ => ?_) (fun hne => absurd rfl hne)
  refine lv_iload hx hb dL_law_2133 (lv_at hl 1 rfl) ?_
  refine lv_if_ne (tgt := 2171) hx hb dL_law_2135 (by decide) (fun _ => ?_) (fun h9 => absurd h9 (by decide))
  refine lv_goto (tgt := 2252) hx hb dL_law_2171 (by decide) ?_
  refine W.widen (k := 60 + 20 * (k + 1) + 37 * t) (n := 400 + 120 * (k + 1) + 162 * t) (by omega) (by omega) ?_
  exact hN d2 L κ g3 _ _ _ _ hd2 hJ hko hkd hI (lv_sub hl [2, 3, 4, 5, 6, 7] rfl)

set_option maxHeartbeats 4000000 in
set_option maxRecDepth 100000 in
theorem k_meanDegrees (l : Launch) (hnt : l.stackTraces = false) {p : Program} {e : Env} {s : State} {m : MethodId} {below : List Frame} {meth : Method} {c : Code} {H : Heap} {locs : List Loc} {Q : State → Prop} {D : va_G} {tc : Nat → ClassId} {z0 b N : Nat} {xs : Nat → Int32} {px pm po pd rq co sp aC aT t k : Nat} {L : List Nat} {κ : Nat → Nat} {g : Nat → Nat → Value} {ls : Array Slot} (C : lwC p s m meth c b N xs D tc z0) (hk : 4 * k + 4 ≤ N) (hN8 : N ≤ 2048) (hJ : zJ κ g z0 px pm rq co sp aC aT t) (h0 : (∀ j, g aC j = .null) ∧ ∀ j, g aT j = .null) (hko : κ po = 29) (hkd : κ pd = 30) (hI : zI D tc (zA [] [] s.heap.size) s.heap [] L κ g H locs) (hl : lv_has ls 9 [(0, .ref b), (1, .ref px), (2, .ref pm), (3, .ref po), (4, .ref pd), (5, .int (nI (4 * k)))]) (hN : lwN p l e s m below meth c b D tc z0 px pm po pd rq co sp aC aT k Q) : W p l e room_1 s m #[Value.ref b] below meth c H locs (60 + 20 * k + 37 * t) (400 + 120 * k + 162 * t) Q (F0 m 2174 ls []) := by
  obtain ⟨hx, hb, hml, hown, hts, hK, hE, hX, hbl⟩ := id C
  have htb9 : t ≤ 9999 := hJ.1.2.2.1.2
  obtain ⟨⟨⟨hkx, hkm, hkq, hkO, hkS, hkC, hkT⟩, ⟨hR, hO, hS9, hC, hT⟩, ⟨htM, htb⟩, lc, eC, nC, mC, cf, lt, eT, nT, mT, tf, hMo, hCo, hTh⟩, a0, a1, a2, a3, a4, a5, a6, a7⟩ := id hJ
  have hn0 : nC = 0 := hCo.zero h0.1
  refine lv_aload_n hx hb dL_law_2174 rfl (lv_at hl 1 rfl) ?_
  refine lv_aload hx hb dL_law_2175 (lv_at hl 4 rfl) ?_
  have hn9 : ∀ j : Nat, j < 6 → g aC j = .null := fun j _ => h0.1 j
  refine z_xi hI (vx_runSX (As := [.ref px, .ref pd]) (rest := []) ⟨hx, hb, hml, hown, hts⟩ (c_L_meanDegrees_no l hnt D tc z0 _ κ g _ px hkx pd hkd aC hC hn9) (vx_cwSW 2 hts gL_law_L_meanDegrees rfl rfl rfl (by decide +kernel) ⟨Nat.le_of_ble_eq_true rfl, Nat.le_of_ble_eq_true rfl⟩) (z_pre (Xc := []) hK hE hI [] rfl rfl) rfl rfl hl.1 rfl (lv_room (Nat.le_of_ble_eq_true rfl)) dL_law_2177 ⟨(show 60 + 20 * k + 37 * t + 1 ≤ 746514 from by omega), (show 400 + 120 * k + 162 * t + 6 ≤ 6862693 from by omega)⟩) (fun E ce q9 u H locs hw hI he1 he2 he3 => hw.elim) (fun v u H locs hw hI => ?_)
  obtain ⟨rfl, rfl⟩ := hw
  have hI : zI D tc (zA [] [] s.heap.size) s.heap [] L κ g H locs := hI
  refine lv_istore (lv' := [(6, .int 1), (0, .ref b), (1, .ref px), (2, .ref pm), (3, .ref po), (4, .ref pd), (5, .int (nI (4 * k)))]) hx hb dL_law_2180 hl (by decide) rfl (fun ls hl => ?_)
  refine lv_aload_n hx hb dL_law_2182 rfl (lv_at hl 3 rfl) ?_
  refine W.base ?_
  have C2 := C.dr s.drawn
  obtain ⟨hx, hb, hml, hown, hts, hK, hE, hX, hbl⟩ := id C2
  refine va_calldD (Drawn.sameBut.refl _ _) (va_runV_D (As := []) (rest := []) ⟨hx, hb, hml, hown, hts⟩ (c_X11_meanDegrees l D tc z0 _ κ g _ pm hkm lc eC nC mC cf lt eT nT mT tf hMo) (cwV 0 hts gL_law_X11_meanDegrees rfl rfl rfl (by decide +kernel) ⟨Nat.le_of_ble_eq_true rfl, Nat.le_of_ble_eq_true rfl⟩) (z_preV (Xc := []) hK hE hI [] rfl rfl (z_recv hK hI hkm rfl rfl)) rfl rfl hl.1 rfl (lv_room (Nat.le_of_ble_eq_true rfl)) dL_law_2183 ⟨(show 60 + 20 * k + 37 * t + 1 + 1 ≤ 746514 from by omega), (show 400 + 120 * k + 162 * t + 6 + 4 ≤ 6862693 from by omega)⟩) hI.2.1 (fun q _ h => z_sub hI [] rfl rfl q h) (z_sub hI [] rfl rfl) (fun w u t3 H locs ht hvm hw hB hz1 hk1 hS1 d2 hd2 => ?_)
  have hI := z_back hI ht hB hS1
  obtain ⟨v8, hv8, rfl⟩ := hw
  obtain rfl : v8 = 1 := hv8 hn0
  have hJ := hJ.upM (j := 12) (v := .int 1) (by decide)
  have hcd : (zup g pm 12 (.int 1)) pm 12 = .int 1 := zup_self _ _ _ _
  have hI : zI D tc (zA [] [] s.heap.size) s.heap [] L κ (zup g pm 12 (.int 1)) H locs := hI
  generalize (zup g pm 12 (.int 1)) = g3 at hI hJ hcd
  obtain ⟨hx, hb, hml, hown, hts, hK, hE, hX, hbl⟩ := C.dr d2
  refine lv_dstore (lv' := [(7, .double w), (6, .int 1), (0, .ref b), (1, .ref px), (2, .ref pm), (3, .ref po), (4, .ref pd), (5, .int (nI (4 * k)))]) hx hb dL_law_2186 hl (by decide) rfl (fun ls hl => ?_)
  refine lv_aload_n hx hb dL_law_2188 rfl (lv_at hl 4 rfl) ?_
  refine z_ci (s := s.setDrawn d2) hI (va_runV (As := []) (rest := []) ⟨hx, hb, hml, hown, hts⟩ (c_X11_thrown l D tc z0 _ κ g3 _ pm hkm) (cwV 0 hts gL_law_X11_thrown rfl rfl rfl (by decide +kernel) ⟨Nat.le_of_ble_eq_true rfl, Nat.le_of_ble_eq_true rfl⟩) (z_preV (Xc := []) hK hE hI [] rfl rfl (z_recv hK hI hkm rfl rfl)) rfl rfl hl.1 rfl (lv_room (Nat.le_of_ble_eq_true rfl)) dL_law_2189 ⟨(show 60 + 20 * k + 37 * t + 1 + 1 + 0 ≤ 746514 from by omega), (show 400 + 120 * k + 162 * t + 6 + 4 + 0 ≤ 6862693 from by omega)⟩) (fun w2 u H locs hw hI => ?_)
  obtain ⟨hw2, rfl⟩ := hw
  have hI : zI D tc (zA [] [] s.heap.size) s.heap [] L κ g3 H locs := hI
  obtain rfl : w2 = 1 := Value.int.inj (hw2.symm.trans hcd)
  refine lv_iload hx hb dL_law_2192 (lv_at hl 1 rfl) ?_
  refine lv_icmp_eq (tgt := 2199) hx hb dL_law_2194 (by decide) (fun _ => ?_) (fun hne => absurd rfl hne)
  refine lv_iload hx hb dL_law_2199 (lv_at hl 1 rfl) ?_
  refine lv_if_ne (tgt := 2236) hx hb dL_law_2201 (by decide) (fun _ => ?_) (fun h9 => absurd h9 (by decide))
  refine lv_goto (tgt := 2252) hx hb dL_law_2236 (by decide) ?_
  refine W.widen (k := 60 + 20 * (k + 1) + 37 * t) (n := 400 + 120 * (k + 1) + 162 * t) (by omega) (by omega) ?_
  exact hN d2 L κ g3 _ _ _ _ hd2 hJ hko hkd hI (lv_sub hl [2, 3, 4, 5, 6, 7] rfl)

