set_option maxHeartbeats 4000000 in
set_option maxRecDepth 100000 in
theorem k_core (l : Launch) (hnt : l.stackTraces = false) {p : Program} {e : Env} {s : State} {m : MethodId} {below : List Frame} {meth : Method} {c : Code} {H : Heap} {locs : List Loc} {Q : State → Prop} {D : va_G} {tc : Nat → ClassId} {z0 b N : Nat} {xs : Nat → Int32} {px pm po pd rq t k : Nat} {L : List Nat} {κ : Nat → Nat} {g : Nat → Nat → Value} {ls : Array Slot} (C : lwC p s m meth c b N xs D tc z0) (hk : 4 * k + 4 ≤ N) (hN8 : N ≤ 2048) (hJ : zJ κ g z0 px pm rq t k) (hko : κ po = 29) (hkd : κ pd = 30) (hI : zI D tc (zA [] [] s.heap.size) s.heap [] L κ g H locs) (hl : lv_has ls 9 [(0, .ref b), (1, .ref px), (2, .ref pm), (3, .ref po), (4, .ref pd), (5, .int (nI (4 * k)))]) (hN : lwN p l e s m below meth c b D tc z0 px pm po pd rq k Q) : W p l e room_1 s m #[Value.ref b] below meth c H locs (60 + 20 * k + 37 * t) (400 + 120 * k + 162 * t) Q (F0 m 224 ls []) := by
  obtain ⟨hx, hb, hml, hown, hts, hK, hE, hX, hbl⟩ := C
  have hbA : ¬ zA [] [] s.heap.size b := fun q => by rcases q with q | q | q; exact absurd q List.not_mem_nil; exact absurd q List.not_mem_nil; exact absurd hbl (Nat.not_lt.mpr q)
  have htb9 : t ≤ 9999 := hJ.1.2.2.1.2
  obtain ⟨⟨⟨hkx, hkm, hkq⟩, hR, ⟨htM, htb⟩, ⟨aC, hkC, hC⟩, ⟨aT, hkT, hT⟩, ⟨co, hkO, hO⟩, ⟨sp, hkS, hS9⟩, lc, eC, nC, mC, cf9, lt, eT, nT, mT, tf, hMo⟩, P, cf, bf, a9, q9, nc, t9, rfl, hSd⟩ := id hJ
  have hWa : zWa g aC 19998 := by rw [show aC = P 1 from Value.ref.inj (hC.symm.trans hSd.1.2.1.1)]; exact (hSd.1.wa hSd.2.2.2.2.2.1).mono2 (by have := hSd.2.2.2.2.1; omega)
  refine lv_aload_n hx hb dL_law_224 rfl (lv_at hl 1 rfl) ?_
  refine lv_aload_n hx hb dL_law_225 rfl (lv_at hl 0 rfl) ?_
  refine lv_iload hx hb dL_law_226 (lv_at hl 5 rfl) ?_
  refine lv_iconst (v := 1) hx hb dL_law_228 (by decide) ?_
  refine lv_iadd hx hb dL_law_229 ?_
  rw [show nI (4 * k) + 1 = nI (4 * k + 1) from nI_add _ _]
  refine va_sld hx hb hX hbl hbA hI.2.1 (vp_in_nI (show 4 * k + 1 < N from by omega) (by omega)) dL_law_230 ?_
  refine lv_aload_n hx hb dL_law_231 rfl (lv_at hl 0 rfl) ?_
  refine lv_iload hx hb dL_law_232 (lv_at hl 5 rfl) ?_
  refine lv_iconst (v := 2) hx hb dL_law_234 (by decide) ?_
  refine lv_iadd hx hb dL_law_235 ?_
  rw [show nI (4 * k) + 2 = nI (4 * k + 2) from nI_add _ _]
  refine va_sld hx hb hX hbl hbA hI.2.1 (vp_in_nI (show 4 * k + 2 < N from by omega) (by omega)) dL_law_236 ?_
  refine lv_i2c hx hb dL_law_237 rfl ?_
  refine lv_aload_n hx hb dL_law_238 rfl (lv_at hl 3 rfl) ?_
  refine z_xi hI (vx_runSX (As := [.ref (P 0), .int (xs (nI (4 * k + 1)).toNatClampNeg), .int (((xs (nI (4 * k + 2)).toNatClampNeg).toUInt32 % 65536).toInt32), .ref po]) (rest := []) ⟨hx, hb, hml, hown, hts⟩ (c_L_core l hnt D tc z0 _ κ g _ P hkx (xs (nI (4 * k + 1)).toNatClampNeg) (((xs (nI (4 * k + 2)).toNatClampNeg).toUInt32 % 65536).toInt32) po hko cf bf a9 q9 nc t9 k hSd) (vx_cwSW 4 hts gL_law_L_core rfl rfl rfl (by decide +kernel) ⟨Nat.le_of_ble_eq_true rfl, Nat.le_of_ble_eq_true rfl⟩) (z_pre (Xc := []) hK hE hI [] rfl rfl) rfl rfl hl.1 rfl (lv_room (Nat.le_of_ble_eq_true rfl)) dL_law_239 ⟨(show 60 + 20 * k + 37 * t + 7 ≤ 798071 from by omega), (show 400 + 120 * k + 162 * t + 65 ≤ 6701890 from by omega)⟩) (fun E ce q9 u H locs hw hI he1 he2 he3 => hw.elim) (fun v u H locs hw hI => ?_)
  obtain ⟨L1, κ1, g1⟩ := u
  have hI : zI D tc (zA [] [] s.heap.size) s.heap [] L1 κ1 g1 H locs := hI
  have hJ : zJ κ1 g1 z0 (P 0) pm rq t (k + 1) ∧ κ1 po = 29 ∧ κ1 pd = 30 := by
    rcases hw with ⟨_, r1, u1, v9, hp, hu⟩ | ⟨_, hp⟩ | ⟨_, hp⟩ | ⟨_, hp⟩
    · cases hu
      obtain ⟨cf2, bf2, a2, q2, hS8, hκ8, hg8⟩ := hp
      exact ⟨(zJ.mk (hJ.1.coreC hSd.1.1.2.1 hκ8 hg8) hS8).up ((hκ8 po (by rw [hko]; decide)).trans hko) (by decide), (hκ8 po (by rw [hko]; decide)).trans hko, (hκ8 pd (by rw [hkd]; decide)).trans hkd⟩
    · obtain ⟨_, hp⟩ := hp
      cases hp
      exact ⟨hJ.more, hko, hkd⟩
    · obtain ⟨_, hp⟩ := hp
      cases hp
      exact ⟨hJ.more, hko, hkd⟩
    · obtain ⟨_, hp⟩ := hp
      cases hp
      exact ⟨hJ.more, hko, hkd⟩
  obtain ⟨hJ, hko, hkd⟩ := hJ
  clear hw
  obtain ⟨L, rfl⟩ : ∃ x, x = L1 := ⟨_, rfl⟩
  obtain ⟨κ, rfl⟩ : ∃ x, x = κ1 := ⟨_, rfl⟩
  obtain ⟨g, rfl⟩ : ∃ x, x = g1 := ⟨_, rfl⟩
  refine lv_istore (lv' := [(6, .int v), (0, .ref b), (1, .ref (P 0)), (2, .ref pm), (3, .ref po), (4, .ref pd), (5, .int (nI (4 * k)))]) hx hb dL_law_242 hl (by decide) rfl (fun ls hl => ?_)
  refine lv_aload_n hx hb dL_law_244 rfl (lv_at hl 3 rfl) ?_
  refine lv_aload_n hx hb dL_law_245 rfl (lv_at hl 1 rfl) ?_
  refine lv_iload hx hb dL_law_246 (lv_at hl 6 rfl) ?_
  refine lv_iconst (v := 1) hx hb dL_law_248 (by decide) ?_
  refine lv_iadd hx hb dL_law_249 ?_
  rw [show nI (4 * k) + 1 = nI (4 * k + 1) from nI_add _ _]
  refine va_sld hx hb hX hbl hbA hI.2.1 (vp_in_nI (show 4 * k + 1 < N from by omega) (by omega)) dL_law_250 ?_
  refine lv_aload_n hx hb dL_law_251 rfl (lv_at hl 1 rfl) ?_
  refine lv_iload hx hb dL_law_252 (lv_at hl 6 rfl) ?_
  refine lv_iconst (v := 2) hx hb dL_law_254 (by decide) ?_
  refine lv_iadd hx hb dL_law_255 ?_
  rw [show nI (4 * k) + 2 = nI (4 * k + 2) from nI_add _ _]
  refine va_sld hx hb hX hbl hbA hI.2.1 (vp_in_nI (show 4 * k + 2 < N from by omega) (by omega)) dL_law_256 ?_
  refine lv_i2c hx hb dL_law_257 rfl ?_
  obtain ⟨⟨⟨hkx, hkm, hkq⟩, hR, ⟨htM, htb⟩, ⟨aC, hkC, hC⟩, ⟨aT, hkT, hT⟩, ⟨co, hkO, hO⟩, ⟨sp, hkS, hS9⟩, lc, eC, nC, mC, cf9, lt, eT, nT, mT, tf, hMo⟩, -⟩ := id hJ
  refine z_ci hI (va_runV (As := [.int (xs (nI (4 * k + 1)).toNatClampNeg), .int (((xs (nI (4 * k + 2)).toNatClampNeg).toUInt32 % 65536).toInt32)]) (rest := []) ⟨hx, hb, hml, hown, hts⟩ (c_X11_core l D tc z0 _ κ g _ pm hkm (xs (nI (4 * k + 1)).toNatClampNeg) (((xs (nI (4 * k + 2)).toNatClampNeg).toUInt32 % 65536).toInt32) lc eC nC mC cf9 lt eT nT mT tf hMo ) (cwV 2 hts gL_law_X11_core rfl rfl rfl (by decide +kernel) ⟨Nat.le_of_ble_eq_true rfl, Nat.le_of_ble_eq_true rfl⟩) (z_preV (Xc := []) hK hE hI [] rfl rfl (z_recv hK hI hkm rfl rfl)) rfl rfl hl.1 rfl (lv_room (Nat.le_of_ble_eq_true rfl)) dL_law_258 ⟨(show 60 + 20 * k + 37 * t + 7 + 2 ≤ 798071 from by omega), (show 400 + 120 * k + 162 * t + 65 + 29 ≤ 6701890 from by omega)⟩) (fun w u H locs hw hI => ?_)
  obtain ⟨L1, κ1, g1⟩ := u
  have hI : zI D tc (zA [] [] s.heap.size) s.heap [] L1 κ1 g1 H locs := hI
  have hJ : zJ κ1 g1 z0 (P 0) pm rq t (k + 1) ∧ κ1 po = 29 ∧ κ1 pd = 30 := by
    rcases hw with ⟨_, _, _, hu⟩ | ⟨i9, _, _, _, _, _, e9, q9, hM9, _, _, _, _, hκ9, hg9⟩
    · cases hu
      exact ⟨hJ.upM (by decide), hko, hkd⟩
    · exact ⟨hJ.frM hMo.LC.1 (by decide) hκ9 hg9 ⟨_, _, _, _, _, _, _, _, _, _, hM9⟩, (hκ9 po (by rw [hko]; decide)).trans hko, (hκ9 pd (by rw [hkd]; decide)).trans hkd⟩
  obtain ⟨hJ, hko, hkd⟩ := hJ
  obtain ⟨L, rfl⟩ : ∃ x, x = L1 := ⟨_, rfl⟩
  obtain ⟨κ, rfl⟩ : ∃ x, x = κ1 := ⟨_, rfl⟩
  obtain ⟨g, rfl⟩ : ∃ x, x = g1 := ⟨_, rfl⟩
  refine lv_istore (lv' := [(7, .int w), (6, .int v), (0, .ref b), (1, .ref (P 0)), (2, .ref pm), (3, .ref po), (4, .ref pd), (5, .int (nI (4 * k)))]) hx hb dL_law_261 hl (by decide) rfl (fun ls hl => ?_)
  refine lv_goto (tgt := 1364) hx hb dL_law_263 (by decide) ?_
  have hl := lv_sub hl [2, 3, 4, 5, 6, 7] (l' := [(0, .ref b), (1, .ref (P 0)), (2, .ref pm), (3, .ref po), (4, .ref pd), (5, .int (nI (4 * k)))]) rfl
  refine W.widen (k := 60 + 20 * (k + 1) + 37 * t) (n := 400 + 120 * (k + 1) + 162 * t) (by omega) (by omega) ?_
  refine W.base ?_
  exact hN s.drawn L κ g _ _ _ _ (Drawn.sameBut.refl _ _) hJ hko hkd hI hl

set_option maxHeartbeats 4000000 in
set_option maxRecDepth 100000 in
theorem k_thread (l : Launch) (hnt : l.stackTraces = false) {p : Program} {e : Env} {s : State} {m : MethodId} {below : List Frame} {meth : Method} {c : Code} {H : Heap} {locs : List Loc} {Q : State → Prop} {D : va_G} {tc : Nat → ClassId} {z0 b N : Nat} {xs : Nat → Int32} {px pm po pd rq t k : Nat} {L : List Nat} {κ : Nat → Nat} {g : Nat → Nat → Value} {ls : Array Slot} (C : lwC p s m meth c b N xs D tc z0) (hk : 4 * k + 4 ≤ N) (hN8 : N ≤ 2048) (hJ : zJ κ g z0 px pm rq t k) (hko : κ po = 29) (hkd : κ pd = 30) (hI : zI D tc (zA [] [] s.heap.size) s.heap [] L κ g H locs) (hl : lv_has ls 9 [(0, .ref b), (1, .ref px), (2, .ref pm), (3, .ref po), (4, .ref pd), (5, .int (nI (4 * k)))]) (hN : lwN p l e s m below meth c b D tc z0 px pm po pd rq k Q) : W p l e room_1 s m #[Value.ref b] below meth c H locs (60 + 20 * k + 37 * t) (400 + 120 * k + 162 * t) Q (F0 m 266 ls []) := by
  obtain ⟨hx, hb, hml, hown, hts, hK, hE, hX, hbl⟩ := C
  have hbA : ¬ zA [] [] s.heap.size b := fun q => by rcases q with q | q | q; exact absurd q List.not_mem_nil; exact absurd q List.not_mem_nil; exact absurd hbl (Nat.not_lt.mpr q)
  have htb9 : t ≤ 9999 := hJ.1.2.2.1.2
  obtain ⟨⟨⟨hkx, hkm, hkq⟩, hR, ⟨htM, htb⟩, ⟨aC, hkC, hC⟩, ⟨aT, hkT, hT⟩, ⟨co, hkO, hO⟩, ⟨sp, hkS, hS9⟩, lc, eC, nC, mC, cf9, lt, eT, nT, mT, tf, hMo⟩, P, cf, bf, a9, q9, nc, t9, rfl, hSd⟩ := id hJ
  have hWa : zWa g aC 19998 := by rw [show aC = P 1 from Value.ref.inj (hC.symm.trans hSd.1.2.1.1)]; exact (hSd.1.wa hSd.2.2.2.2.2.1).mono2 (by have := hSd.2.2.2.2.1; omega)
  refine lv_aload_n hx hb dL_law_266 rfl (lv_at hl 1 rfl) ?_
  refine lv_aload_n hx hb dL_law_267 rfl (lv_at hl 0 rfl) ?_
  refine lv_iload hx hb dL_law_268 (lv_at hl 5 rfl) ?_
  refine lv_iconst (v := 1) hx hb dL_law_270 (by decide) ?_
  refine lv_iadd hx hb dL_law_271 ?_
  rw [show nI (4 * k) + 1 = nI (4 * k + 1) from nI_add _ _]
  refine va_sld hx hb hX hbl hbA hI.2.1 (vp_in_nI (show 4 * k + 1 < N from by omega) (by omega)) dL_law_272 ?_
  refine lv_aload_n hx hb dL_law_273 rfl (lv_at hl 0 rfl) ?_
  refine lv_iload hx hb dL_law_274 (lv_at hl 5 rfl) ?_
  refine lv_iconst (v := 2) hx hb dL_law_276 (by decide) ?_
  refine lv_iadd hx hb dL_law_277 ?_
  rw [show nI (4 * k) + 2 = nI (4 * k + 2) from nI_add _ _]
  refine va_sld hx hb hX hbl hbA hI.2.1 (vp_in_nI (show 4 * k + 2 < N from by omega) (by omega)) dL_law_278 ?_
  refine lv_aload_n hx hb dL_law_279 rfl (lv_at hl 0 rfl) ?_
  refine lv_iload hx hb dL_law_280 (lv_at hl 5 rfl) ?_
  refine lv_iconst (v := 3) hx hb dL_law_282 (by decide) ?_
  refine lv_iadd hx hb dL_law_283 ?_
  rw [show nI (4 * k) + 3 = nI (4 * k + 3) from nI_add _ _]
  refine va_sld hx hb hX hbl hbA hI.2.1 (vp_in_nI (show 4 * k + 3 < N from by omega) (by omega)) dL_law_284 ?_
  refine lv_aload_n hx hb dL_law_285 rfl (lv_at hl 3 rfl) ?_
  refine z_xi hI (vx_runSX (As := [.ref (P 0), .int (xs (nI (4 * k + 1)).toNatClampNeg), .int (xs (nI (4 * k + 2)).toNatClampNeg), .int (xs (nI (4 * k + 3)).toNatClampNeg), .ref po]) (rest := []) ⟨hx, hb, hml, hown, hts⟩ (c_L_thread l hnt D tc z0 _ κ g _ (P 0) hkx (xs (nI (4 * k + 1)).toNatClampNeg) (xs (nI (4 * k + 2)).toNatClampNeg) (xs (nI (4 * k + 3)).toNatClampNeg) po hko aC hC aT hT) (vx_cwSW 5 hts gL_law_L_thread rfl rfl rfl (by decide +kernel) ⟨Nat.le_of_ble_eq_true rfl, Nat.le_of_ble_eq_true rfl⟩) (z_pre (Xc := []) hK hE hI [] rfl rfl) rfl rfl hl.1 rfl (lv_room (Nat.le_of_ble_eq_true rfl)) dL_law_286 ⟨(show 60 + 20 * k + 37 * t + 2 ≤ 798071 from by omega), (show 400 + 120 * k + 162 * t + 12 ≤ 6701890 from by omega)⟩) (fun E ce q9 u H locs hw hI he1 he2 he3 => hw.elim) (fun v u H locs hw hI => ?_)
  obtain ⟨L1, κ1, g1⟩ := u
  have hI : zI D tc (zA [] [] s.heap.size) s.heap [] L1 κ1 g1 H locs := hI
  have hJ : zJ κ1 g1 z0 (P 0) pm rq t (k + 1) ∧ κ1 po = 29 ∧ κ1 pd = 30 := by
    rcases hw with ⟨_, r1, u1, v9, hp, hu⟩ | ⟨_, hp⟩ | ⟨_, hp⟩ | ⟨_, hp⟩
    · cases hu
      obtain ⟨i9, q8, _, _, _, _, _, _, _, hx9⟩ := hp
      exact ⟨(hJ.thr hkT hx9).more.up (hx9.k hko (by decide)) (by decide), hx9.k hko (by decide), hx9.k hkd (by decide)⟩
    · obtain ⟨_, hp⟩ := hp
      cases hp
      exact ⟨hJ.more, hko, hkd⟩
    · obtain ⟨_, hp⟩ := hp
      cases hp
      exact ⟨hJ.more, hko, hkd⟩
    · obtain ⟨_, hp⟩ := hp
      cases hp
      exact ⟨hJ.more, hko, hkd⟩
  obtain ⟨hJ, hko, hkd⟩ := hJ
  clear hw
  obtain ⟨L, rfl⟩ : ∃ x, x = L1 := ⟨_, rfl⟩
  obtain ⟨κ, rfl⟩ : ∃ x, x = κ1 := ⟨_, rfl⟩
  obtain ⟨g, rfl⟩ : ∃ x, x = g1 := ⟨_, rfl⟩
  refine lv_istore (lv' := [(6, .int v), (0, .ref b), (1, .ref (P 0)), (2, .ref pm), (3, .ref po), (4, .ref pd), (5, .int (nI (4 * k)))]) hx hb dL_law_289 hl (by decide) rfl (fun ls hl => ?_)
  refine lv_aload_n hx hb dL_law_291 rfl (lv_at hl 3 rfl) ?_
  refine lv_aload_n hx hb dL_law_292 rfl (lv_at hl 1 rfl) ?_
  refine lv_iload hx hb dL_law_293 (lv_at hl 6 rfl) ?_
  refine lv_iconst (v := 1) hx hb dL_law_295 (by decide) ?_
  refine lv_iadd hx hb dL_law_296 ?_
  rw [show nI (4 * k) + 1 = nI (4 * k + 1) from nI_add _ _]
  refine va_sld hx hb hX hbl hbA hI.2.1 (vp_in_nI (show 4 * k + 1 < N from by omega) (by omega)) dL_law_297 ?_
  refine lv_aload_n hx hb dL_law_298 rfl (lv_at hl 1 rfl) ?_
  refine lv_iload hx hb dL_law_299 (lv_at hl 6 rfl) ?_
  refine lv_iconst (v := 2) hx hb dL_law_301 (by decide) ?_
  refine lv_iadd hx hb dL_law_302 ?_
  rw [show nI (4 * k) + 2 = nI (4 * k + 2) from nI_add _ _]
  refine va_sld hx hb hX hbl hbA hI.2.1 (vp_in_nI (show 4 * k + 2 < N from by omega) (by omega)) dL_law_303 ?_
  refine lv_aload_n hx hb dL_law_304 rfl (lv_at hl 1 rfl) ?_
  refine lv_iload hx hb dL_law_305 (lv_at hl 6 rfl) ?_
  refine lv_iconst (v := 3) hx hb dL_law_307 (by decide) ?_
  refine lv_iadd hx hb dL_law_308 ?_
  rw [show nI (4 * k) + 3 = nI (4 * k + 3) from nI_add _ _]
  refine va_sld hx hb hX hbl hbA hI.2.1 (vp_in_nI (show 4 * k + 3 < N from by omega) (by omega)) dL_law_309 ?_
  obtain ⟨⟨⟨hkx, hkm, hkq⟩, hR, ⟨htM, htb⟩, ⟨aC, hkC, hC⟩, ⟨aT, hkT, hT⟩, ⟨co, hkO, hO⟩, ⟨sp, hkS, hS9⟩, lc, eC, nC, mC, cf9, lt, eT, nT, mT, tf, hMo⟩, -⟩ := id hJ
  refine z_ci hI (va_runV (As := [.int (xs (nI (4 * k + 1)).toNatClampNeg), .int (xs (nI (4 * k + 2)).toNatClampNeg), .int (xs (nI (4 * k + 3)).toNatClampNeg)]) (rest := []) ⟨hx, hb, hml, hown, hts⟩ (c_X11_thread l D tc z0 _ κ g _ pm hkm (xs (nI (4 * k + 1)).toNatClampNeg) (xs (nI (4 * k + 2)).toNatClampNeg) (xs (nI (4 * k + 3)).toNatClampNeg) lc eC nC mC cf9 lt eT nT mT tf hMo ) (cwV 3 hts gL_law_X11_thread rfl rfl rfl (by decide +kernel) ⟨Nat.le_of_ble_eq_true rfl, Nat.le_of_ble_eq_true rfl⟩) (z_preV (Xc := []) hK hE hI [] rfl rfl (z_recv hK hI hkm rfl rfl)) rfl rfl hl.1 rfl (lv_room (Nat.le_of_ble_eq_true rfl)) dL_law_310 ⟨(show 60 + 20 * k + 37 * t + 2 + 2 ≤ 798071 from by omega), (show 400 + 120 * k + 162 * t + 12 + 14 ≤ 6701890 from by omega)⟩) (fun w u H locs hw hI => ?_)
  obtain ⟨L1, κ1, g1⟩ := u
  have hI : zI D tc (zA [] [] s.heap.size) s.heap [] L1 κ1 g1 H locs := hI
  have hJ : zJ κ1 g1 z0 (P 0) pm rq t (k + 1) ∧ κ1 po = 29 ∧ κ1 pd = 30 := by
    rcases hw with ⟨_, _, _, hu⟩ | ⟨i9, _, _, _, _, _, e9, q9, hM9, _, _, _, hκ9, hg9⟩
    · cases hu
      exact ⟨hJ.upM (by decide), hko, hkd⟩
    · exact ⟨hJ.frM hMo.LT.1 (by decide) hκ9 hg9 ⟨_, _, _, _, _, _, _, _, _, _, hM9⟩, (hκ9 po (by rw [hko]; decide)).trans hko, (hκ9 pd (by rw [hkd]; decide)).trans hkd⟩
  obtain ⟨hJ, hko, hkd⟩ := hJ
  obtain ⟨L, rfl⟩ : ∃ x, x = L1 := ⟨_, rfl⟩
  obtain ⟨κ, rfl⟩ : ∃ x, x = κ1 := ⟨_, rfl⟩
  obtain ⟨g, rfl⟩ : ∃ x, x = g1 := ⟨_, rfl⟩
  refine lv_istore (lv' := [(7, .int w), (6, .int v), (0, .ref b), (1, .ref (P 0)), (2, .ref pm), (3, .ref po), (4, .ref pd), (5, .int (nI (4 * k)))]) hx hb dL_law_313 hl (by decide) rfl (fun ls hl => ?_)
  refine lv_goto (tgt := 1364) hx hb dL_law_315 (by decide) ?_
  have hl := lv_sub hl [2, 3, 4, 5, 6, 7] (l' := [(0, .ref b), (1, .ref (P 0)), (2, .ref pm), (3, .ref po), (4, .ref pd), (5, .int (nI (4 * k)))]) rfl
  refine W.widen (k := 60 + 20 * (k + 1) + 37 * t) (n := 400 + 120 * (k + 1) + 162 * t) (by omega) (by omega) ?_
  refine W.base ?_
  exact hN s.drawn L κ g _ _ _ _ (Drawn.sameBut.refl _ _) hJ hko hkd hI hl

set_option maxHeartbeats 4000000 in
set_option maxRecDepth 100000 in
theorem k_feed (l : Launch) (hnt : l.stackTraces = false) {p : Program} {e : Env} {s : State} {m : MethodId} {below : List Frame} {meth : Method} {c : Code} {H : Heap} {locs : List Loc} {Q : State → Prop} {D : va_G} {tc : Nat → ClassId} {z0 b N : Nat} {xs : Nat → Int32} {px pm po pd rq t k : Nat} {L : List Nat} {κ : Nat → Nat} {g : Nat → Nat → Value} {ls : Array Slot} (C : lwC p s m meth c b N xs D tc z0) (hk : 4 * k + 4 ≤ N) (hN8 : N ≤ 2048) (hJ : zJ κ g z0 px pm rq t k) (hko : κ po = 29) (hkd : κ pd = 30) (hI : zI D tc (zA [] [] s.heap.size) s.heap [] L κ g H locs) (hl : lv_has ls 9 [(0, .ref b), (1, .ref px), (2, .ref pm), (3, .ref po), (4, .ref pd), (5, .int (nI (4 * k)))]) (hN : lwN p l e s m below meth c b D tc z0 px pm po pd rq k Q) : W p l e room_1 s m #[Value.ref b] below meth c H locs (60 + 20 * k + 37 * t) (400 + 120 * k + 162 * t) Q (F0 m 318 ls []) := by
  obtain ⟨hx, hb, hml, hown, hts, hK, hE, hX, hbl⟩ := C
  have hbA : ¬ zA [] [] s.heap.size b := fun q => by rcases q with q | q | q; exact absurd q List.not_mem_nil; exact absurd q List.not_mem_nil; exact absurd hbl (Nat.not_lt.mpr q)
  have htb9 : t ≤ 9999 := hJ.1.2.2.1.2
  obtain ⟨⟨⟨hkx, hkm, hkq⟩, hR, ⟨htM, htb⟩, ⟨aC, hkC, hC⟩, ⟨aT, hkT, hT⟩, ⟨co, hkO, hO⟩, ⟨sp, hkS, hS9⟩, lc, eC, nC, mC, cf9, lt, eT, nT, mT, tf, hMo⟩, P, cf, bf, a9, q9, nc, t9, rfl, hSd⟩ := id hJ
  have hWa : zWa g aC 19998 := by rw [show aC = P 1 from Value.ref.inj (hC.symm.trans hSd.1.2.1.1)]; exact (hSd.1.wa hSd.2.2.2.2.2.1).mono2 (by have := hSd.2.2.2.2.1; omega)
  refine lv_aload_n hx hb dL_law_318 rfl (lv_at hl 1 rfl) ?_
  refine lv_aload_n hx hb dL_law_319 rfl (lv_at hl 0 rfl) ?_
  refine lv_iload hx hb dL_law_320 (lv_at hl 5 rfl) ?_
  refine lv_iconst (v := 1) hx hb dL_law_322 (by decide) ?_
  refine lv_iadd hx hb dL_law_323 ?_
  rw [show nI (4 * k) + 1 = nI (4 * k + 1) from nI_add _ _]
  refine va_sld hx hb hX hbl hbA hI.2.1 (vp_in_nI (show 4 * k + 1 < N from by omega) (by omega)) dL_law_324 ?_
  refine lv_aload_n hx hb dL_law_325 rfl (lv_at hl 0 rfl) ?_
  refine lv_iload hx hb dL_law_326 (lv_at hl 5 rfl) ?_
  refine lv_iconst (v := 2) hx hb dL_law_328 (by decide) ?_
  refine lv_iadd hx hb dL_law_329 ?_
  rw [show nI (4 * k) + 2 = nI (4 * k + 2) from nI_add _ _]
  refine va_sld hx hb hX hbl hbA hI.2.1 (vp_in_nI (show 4 * k + 2 < N from by omega) (by omega)) dL_law_330 ?_
  refine lv_aload_n hx hb dL_law_331 rfl (lv_at hl 3 rfl) ?_
  refine z_xi hI (vx_runSX (As := [.ref (P 0), .int (xs (nI (4 * k + 1)).toNatClampNeg), .int (xs (nI (4 * k + 2)).toNatClampNeg), .ref po]) (rest := []) ⟨hx, hb, hml, hown, hts⟩ (c_L_feed l hnt D tc z0 _ κ g _ (P 0) hkx (xs (nI (4 * k + 1)).toNatClampNeg) (xs (nI (4 * k + 2)).toNatClampNeg) po hko aT hT) (vx_cwSW 4 hts gL_law_L_feed rfl rfl rfl (by decide +kernel) ⟨Nat.le_of_ble_eq_true rfl, Nat.le_of_ble_eq_true rfl⟩) (z_pre (Xc := []) hK hE hI [] rfl rfl) rfl rfl hl.1 rfl (lv_room (Nat.le_of_ble_eq_true rfl)) dL_law_332 ⟨(show 60 + 20 * k + 37 * t + 2 ≤ 798071 from by omega), (show 400 + 120 * k + 162 * t + 12 ≤ 6701890 from by omega)⟩) (fun E ce q9 u H locs hw hI he1 he2 he3 => hw.elim) (fun v u H locs hw hI => ?_)
  obtain ⟨L1, κ1, g1⟩ := u
  have hI : zI D tc (zA [] [] s.heap.size) s.heap [] L1 κ1 g1 H locs := hI
  have hJ : zJ κ1 g1 z0 (P 0) pm rq t (k + 1) ∧ κ1 po = 29 ∧ κ1 pd = 30 := by
    rcases hw with ⟨_, r1, u1, v9, hp, hu⟩ | ⟨_, hp⟩ | ⟨_, hp⟩ | ⟨_, hp⟩
    · cases hu
      have hp9 : u1 = (L, κ, g) := by first | exact hp | exact hp.2 | exact hp.2.2 | exact hp.2.2.2
      cases hp9
      exact ⟨(hJ.up hko (by decide)).more, hko, hkd⟩
    · obtain ⟨_, hp⟩ := hp
      cases hp
      exact ⟨hJ.more, hko, hkd⟩
    · obtain ⟨_, hp⟩ := hp
      cases hp
      exact ⟨hJ.more, hko, hkd⟩
    · obtain ⟨_, hp⟩ := hp
      cases hp
      exact ⟨hJ.more, hko, hkd⟩
  obtain ⟨hJ, hko, hkd⟩ := hJ
  clear hw
  obtain ⟨L, rfl⟩ : ∃ x, x = L1 := ⟨_, rfl⟩
  obtain ⟨κ, rfl⟩ : ∃ x, x = κ1 := ⟨_, rfl⟩
  obtain ⟨g, rfl⟩ : ∃ x, x = g1 := ⟨_, rfl⟩
  refine lv_istore (lv' := [(6, .int v), (0, .ref b), (1, .ref (P 0)), (2, .ref pm), (3, .ref po), (4, .ref pd), (5, .int (nI (4 * k)))]) hx hb dL_law_335 hl (by decide) rfl (fun ls hl => ?_)
  refine lv_aload_n hx hb dL_law_337 rfl (lv_at hl 3 rfl) ?_
  refine lv_aload_n hx hb dL_law_338 rfl (lv_at hl 1 rfl) ?_
  refine lv_iload hx hb dL_law_339 (lv_at hl 6 rfl) ?_
  refine lv_iconst (v := 1) hx hb dL_law_341 (by decide) ?_
  refine lv_iadd hx hb dL_law_342 ?_
  rw [show nI (4 * k) + 1 = nI (4 * k + 1) from nI_add _ _]
  refine va_sld hx hb hX hbl hbA hI.2.1 (vp_in_nI (show 4 * k + 1 < N from by omega) (by omega)) dL_law_343 ?_
  refine lv_aload_n hx hb dL_law_344 rfl (lv_at hl 1 rfl) ?_
  refine lv_iload hx hb dL_law_345 (lv_at hl 6 rfl) ?_
  refine lv_iconst (v := 2) hx hb dL_law_347 (by decide) ?_
  refine lv_iadd hx hb dL_law_348 ?_
  rw [show nI (4 * k) + 2 = nI (4 * k + 2) from nI_add _ _]
  refine va_sld hx hb hX hbl hbA hI.2.1 (vp_in_nI (show 4 * k + 2 < N from by omega) (by omega)) dL_law_349 ?_
  obtain ⟨⟨⟨hkx, hkm, hkq⟩, hR, ⟨htM, htb⟩, ⟨aC, hkC, hC⟩, ⟨aT, hkT, hT⟩, ⟨co, hkO, hO⟩, ⟨sp, hkS, hS9⟩, lc, eC, nC, mC, cf9, lt, eT, nT, mT, tf, hMo⟩, -⟩ := id hJ
  refine z_ci hI (va_runV (As := [.int (xs (nI (4 * k + 1)).toNatClampNeg), .int (xs (nI (4 * k + 2)).toNatClampNeg)]) (rest := []) ⟨hx, hb, hml, hown, hts⟩ (c_X11_feed l D tc z0 _ κ g _ pm hkm (xs (nI (4 * k + 1)).toNatClampNeg) (xs (nI (4 * k + 2)).toNatClampNeg) lc eC nC mC cf9 lt eT nT mT tf hMo ) (cwV 2 hts gL_law_X11_feed rfl rfl rfl (by decide +kernel) ⟨Nat.le_of_ble_eq_true rfl, Nat.le_of_ble_eq_true rfl⟩) (z_preV (Xc := []) hK hE hI [] rfl rfl (z_recv hK hI hkm rfl rfl)) rfl rfl hl.1 rfl (lv_room (Nat.le_of_ble_eq_true rfl)) dL_law_350 ⟨(show 60 + 20 * k + 37 * t + 2 + 0 ≤ 798071 from by omega), (show 400 + 120 * k + 162 * t + 12 + 0 ≤ 6701890 from by omega)⟩) (fun w u H locs hw hI => ?_)
  obtain ⟨x9, rfl⟩ := hw
  have hJ := hJ.upM (j := 12) (v := .int x9) (by decide)
  have hI : zI D tc (zA [] [] s.heap.size) s.heap [] L κ (zup g pm 12 (.int x9)) H locs := hI
  generalize (zup g pm 12 (.int x9)) = g at hI hJ
  refine lv_istore (lv' := [(7, .int w), (6, .int v), (0, .ref b), (1, .ref (P 0)), (2, .ref pm), (3, .ref po), (4, .ref pd), (5, .int (nI (4 * k)))]) hx hb dL_law_353 hl (by decide) rfl (fun ls hl => ?_)
  refine lv_goto (tgt := 1364) hx hb dL_law_355 (by decide) ?_
  have hl := lv_sub hl [2, 3, 4, 5, 6, 7] (l' := [(0, .ref b), (1, .ref (P 0)), (2, .ref pm), (3, .ref po), (4, .ref pd), (5, .int (nI (4 * k)))]) rfl
  refine W.widen (k := 60 + 20 * (k + 1) + 37 * t) (n := 400 + 120 * (k + 1) + 162 * t) (by omega) (by omega) ?_
  refine W.base ?_
  exact hN s.drawn L κ g _ _ _ _ (Drawn.sameBut.refl _ _) hJ hko hkd hI hl

set_option maxHeartbeats 4000000 in
set_option maxRecDepth 100000 in
theorem k_move (l : Launch) (hnt : l.stackTraces = false) {p : Program} {e : Env} {s : State} {m : MethodId} {below : List Frame} {meth : Method} {c : Code} {H : Heap} {locs : List Loc} {Q : State → Prop} {D : va_G} {tc : Nat → ClassId} {z0 b N : Nat} {xs : Nat → Int32} {px pm po pd rq t k : Nat} {L : List Nat} {κ : Nat → Nat} {g : Nat → Nat → Value} {ls : Array Slot} (C : lwC p s m meth c b N xs D tc z0) (hk : 4 * k + 4 ≤ N) (hN8 : N ≤ 2048) (hJ : zJ κ g z0 px pm rq t k) (hko : κ po = 29) (hkd : κ pd = 30) (hI : zI D tc (zA [] [] s.heap.size) s.heap [] L κ g H locs) (hl : lv_has ls 9 [(0, .ref b), (1, .ref px), (2, .ref pm), (3, .ref po), (4, .ref pd), (5, .int (nI (4 * k)))]) (hN : lwN p l e s m below meth c b D tc z0 px pm po pd rq k Q) : W p l e room_1 s m #[Value.ref b] below meth c H locs (60 + 20 * k + 37 * t) (400 + 120 * k + 162 * t) Q (F0 m 358 ls []) := by
  obtain ⟨hx, hb, hml, hown, hts, hK, hE, hX, hbl⟩ := C
  have hbA : ¬ zA [] [] s.heap.size b := fun q => by rcases q with q | q | q; exact absurd q List.not_mem_nil; exact absurd q List.not_mem_nil; exact absurd hbl (Nat.not_lt.mpr q)
  have htb9 : t ≤ 9999 := hJ.1.2.2.1.2
  obtain ⟨⟨⟨hkx, hkm, hkq⟩, hR, ⟨htM, htb⟩, ⟨aC, hkC, hC⟩, ⟨aT, hkT, hT⟩, ⟨co, hkO, hO⟩, ⟨sp, hkS, hS9⟩, lc, eC, nC, mC, cf9, lt, eT, nT, mT, tf, hMo⟩, P, cf, bf, a9, q9, nc, t9, rfl, hSd⟩ := id hJ
  have hWa : zWa g aC 19998 := by rw [show aC = P 1 from Value.ref.inj (hC.symm.trans hSd.1.2.1.1)]; exact (hSd.1.wa hSd.2.2.2.2.2.1).mono2 (by have := hSd.2.2.2.2.1; omega)
  refine lv_aload_n hx hb dL_law_358 rfl (lv_at hl 1 rfl) ?_
  refine lv_aload_n hx hb dL_law_359 rfl (lv_at hl 0 rfl) ?_
  refine lv_iload hx hb dL_law_360 (lv_at hl 5 rfl) ?_
  refine lv_iconst (v := 1) hx hb dL_law_362 (by decide) ?_
  refine lv_iadd hx hb dL_law_363 ?_
  rw [show nI (4 * k) + 1 = nI (4 * k + 1) from nI_add _ _]
  refine va_sld hx hb hX hbl hbA hI.2.1 (vp_in_nI (show 4 * k + 1 < N from by omega) (by omega)) dL_law_364 ?_
  refine lv_aload_n hx hb dL_law_365 rfl (lv_at hl 0 rfl) ?_
  refine lv_iload hx hb dL_law_366 (lv_at hl 5 rfl) ?_
  refine lv_iconst (v := 2) hx hb dL_law_368 (by decide) ?_
  refine lv_iadd hx hb dL_law_369 ?_
  rw [show nI (4 * k) + 2 = nI (4 * k + 2) from nI_add _ _]
  refine va_sld hx hb hX hbl hbA hI.2.1 (vp_in_nI (show 4 * k + 2 < N from by omega) (by omega)) dL_law_370 ?_
  refine lv_aload_n hx hb dL_law_371 rfl (lv_at hl 3 rfl) ?_
  refine z_xi hI (vx_runSX (As := [.ref (P 0), .int (xs (nI (4 * k + 1)).toNatClampNeg), .int (xs (nI (4 * k + 2)).toNatClampNeg), .ref po]) (rest := []) ⟨hx, hb, hml, hown, hts⟩ (c_L_move l hnt D tc z0 _ κ g _ (P 0) hkx (xs (nI (4 * k + 1)).toNatClampNeg) (xs (nI (4 * k + 2)).toNatClampNeg) po hko aT hT aC hC) (vx_cwSW 4 hts gL_law_L_move rfl rfl rfl (by decide +kernel) ⟨Nat.le_of_ble_eq_true rfl, Nat.le_of_ble_eq_true rfl⟩) (z_pre (Xc := []) hK hE hI [] rfl rfl) rfl rfl hl.1 rfl (lv_room (Nat.le_of_ble_eq_true rfl)) dL_law_372 ⟨(show 60 + 20 * k + 37 * t + 3 ≤ 798071 from by omega), (show 400 + 120 * k + 162 * t + 18 ≤ 6701890 from by omega)⟩) (fun E ce q9 u H locs hw hI he1 he2 he3 => hw.elim) (fun v u H locs hw hI => ?_)
  obtain ⟨L1, κ1, g1⟩ := u
  have hI : zI D tc (zA [] [] s.heap.size) s.heap [] L1 κ1 g1 H locs := hI
  have hJ : zJ κ1 g1 z0 (P 0) pm rq t (k + 1) ∧ κ1 po = 29 ∧ κ1 pd = 30 := by
    rcases hw with ⟨_, r1, u1, v9, hp, hu⟩ | ⟨_, hp⟩ | ⟨_, hp⟩
    · cases hu
      have hp9 : u1 = (L, κ, g) := by first | exact hp | exact hp.2 | exact hp.2.2 | exact hp.2.2.2
      cases hp9
      exact ⟨(hJ.up hko (by decide)).more, hko, hkd⟩
    · obtain ⟨_, hp⟩ := hp
      cases hp
      exact ⟨hJ.more, hko, hkd⟩
    · obtain ⟨_, hp⟩ := hp
      cases hp
      exact ⟨hJ.more, hko, hkd⟩
  obtain ⟨hJ, hko, hkd⟩ := hJ
  clear hw
  obtain ⟨L, rfl⟩ : ∃ x, x = L1 := ⟨_, rfl⟩
  obtain ⟨κ, rfl⟩ : ∃ x, x = κ1 := ⟨_, rfl⟩
  obtain ⟨g, rfl⟩ : ∃ x, x = g1 := ⟨_, rfl⟩
  refine lv_istore (lv' := [(6, .int v), (0, .ref b), (1, .ref (P 0)), (2, .ref pm), (3, .ref po), (4, .ref pd), (5, .int (nI (4 * k)))]) hx hb dL_law_375 hl (by decide) rfl (fun ls hl => ?_)
  refine lv_aload_n hx hb dL_law_377 rfl (lv_at hl 3 rfl) ?_
  refine lv_aload_n hx hb dL_law_378 rfl (lv_at hl 1 rfl) ?_
  refine lv_iload hx hb dL_law_379 (lv_at hl 6 rfl) ?_
  refine lv_iconst (v := 1) hx hb dL_law_381 (by decide) ?_
  refine lv_iadd hx hb dL_law_382 ?_
  rw [show nI (4 * k) + 1 = nI (4 * k + 1) from nI_add _ _]
  refine va_sld hx hb hX hbl hbA hI.2.1 (vp_in_nI (show 4 * k + 1 < N from by omega) (by omega)) dL_law_383 ?_
  refine lv_aload_n hx hb dL_law_384 rfl (lv_at hl 1 rfl) ?_
  refine lv_iload hx hb dL_law_385 (lv_at hl 6 rfl) ?_
  refine lv_iconst (v := 2) hx hb dL_law_387 (by decide) ?_
  refine lv_iadd hx hb dL_law_388 ?_
  rw [show nI (4 * k) + 2 = nI (4 * k + 2) from nI_add _ _]
  refine va_sld hx hb hX hbl hbA hI.2.1 (vp_in_nI (show 4 * k + 2 < N from by omega) (by omega)) dL_law_389 ?_
  obtain ⟨⟨⟨hkx, hkm, hkq⟩, hR, ⟨htM, htb⟩, ⟨aC, hkC, hC⟩, ⟨aT, hkT, hT⟩, ⟨co, hkO, hO⟩, ⟨sp, hkS, hS9⟩, lc, eC, nC, mC, cf9, lt, eT, nT, mT, tf, hMo⟩, -⟩ := id hJ
  refine z_ci hI (va_runV (As := [.int (xs (nI (4 * k + 1)).toNatClampNeg), .int (xs (nI (4 * k + 2)).toNatClampNeg)]) (rest := []) ⟨hx, hb, hml, hown, hts⟩ (c_X11_move l D tc z0 _ κ g _ pm hkm (xs (nI (4 * k + 1)).toNatClampNeg) (xs (nI (4 * k + 2)).toNatClampNeg) lc eC nC mC cf9 lt eT nT mT tf hMo ) (cwV 2 hts gL_law_X11_move rfl rfl rfl (by decide +kernel) ⟨Nat.le_of_ble_eq_true rfl, Nat.le_of_ble_eq_true rfl⟩) (z_preV (Xc := []) hK hE hI [] rfl rfl (z_recv hK hI hkm rfl rfl)) rfl rfl hl.1 rfl (lv_room (Nat.le_of_ble_eq_true rfl)) dL_law_390 ⟨(show 60 + 20 * k + 37 * t + 3 + 0 ≤ 798071 from by omega), (show 400 + 120 * k + 162 * t + 18 + 0 ≤ 6701890 from by omega)⟩) (fun w u H locs hw hI => ?_)
  obtain ⟨L1, κ1, g1⟩ := u
  have hI : zI D tc (zA [] [] s.heap.size) s.heap [] L1 κ1 g1 H locs := hI
  have hJ : zJ κ1 g1 z0 (P 0) pm rq t (k + 1) ∧ κ1 po = 29 ∧ κ1 pd = 30 := by
    rcases hw with ⟨_, _, hu⟩ | ⟨i9, j9, hi9, _, _, _, _, hu⟩
    · cases hu
      exact ⟨hJ.upM (by decide), hko, hkd⟩
    · cases hu
      exact ⟨(hJ.upM (by decide)).up (hMo.LT.el hi9) (by decide), hko, hkd⟩
  obtain ⟨hJ, hko, hkd⟩ := hJ
  obtain ⟨L, rfl⟩ : ∃ x, x = L1 := ⟨_, rfl⟩
  obtain ⟨κ, rfl⟩ : ∃ x, x = κ1 := ⟨_, rfl⟩
  obtain ⟨g, rfl⟩ : ∃ x, x = g1 := ⟨_, rfl⟩
  refine lv_istore (lv' := [(7, .int w), (6, .int v), (0, .ref b), (1, .ref (P 0)), (2, .ref pm), (3, .ref po), (4, .ref pd), (5, .int (nI (4 * k)))]) hx hb dL_law_393 hl (by decide) rfl (fun ls hl => ?_)
  refine lv_goto (tgt := 1364) hx hb dL_law_395 (by decide) ?_
  have hl := lv_sub hl [2, 3, 4, 5, 6, 7] (l' := [(0, .ref b), (1, .ref (P 0)), (2, .ref pm), (3, .ref po), (4, .ref pd), (5, .int (nI (4 * k)))]) rfl
  refine W.widen (k := 60 + 20 * (k + 1) + 37 * t) (n := 400 + 120 * (k + 1) + 162 * t) (by omega) (by omega) ?_
  refine W.base ?_
  exact hN s.drawn L κ g _ _ _ _ (Drawn.sameBut.refl _ _) hJ hko hkd hI hl

set_option maxHeartbeats 4000000 in
set_option maxRecDepth 100000 in
theorem k_governor (l : Launch) (hnt : l.stackTraces = false) {p : Program} {e : Env} {s : State} {m : MethodId} {below : List Frame} {meth : Method} {c : Code} {H : Heap} {locs : List Loc} {Q : State → Prop} {D : va_G} {tc : Nat → ClassId} {z0 b N : Nat} {xs : Nat → Int32} {px pm po pd rq t k : Nat} {L : List Nat} {κ : Nat → Nat} {g : Nat → Nat → Value} {ls : Array Slot} (C : lwC p s m meth c b N xs D tc z0) (hk : 4 * k + 4 ≤ N) (hN8 : N ≤ 2048) (hJ : zJ κ g z0 px pm rq t k) (hko : κ po = 29) (hkd : κ pd = 30) (hI : zI D tc (zA [] [] s.heap.size) s.heap [] L κ g H locs) (hl : lv_has ls 9 [(0, .ref b), (1, .ref px), (2, .ref pm), (3, .ref po), (4, .ref pd), (5, .int (nI (4 * k)))]) (hN : lwN p l e s m below meth c b D tc z0 px pm po pd rq k Q) : W p l e room_1 s m #[Value.ref b] below meth c H locs (60 + 20 * k + 37 * t) (400 + 120 * k + 162 * t) Q (F0 m 398 ls []) := by
  obtain ⟨hx, hb, hml, hown, hts, hK, hE, hX, hbl⟩ := C
  have hbA : ¬ zA [] [] s.heap.size b := fun q => by rcases q with q | q | q; exact absurd q List.not_mem_nil; exact absurd q List.not_mem_nil; exact absurd hbl (Nat.not_lt.mpr q)
  have htb9 : t ≤ 9999 := hJ.1.2.2.1.2
  obtain ⟨⟨⟨hkx, hkm, hkq⟩, hR, ⟨htM, htb⟩, ⟨aC, hkC, hC⟩, ⟨aT, hkT, hT⟩, ⟨co, hkO, hO⟩, ⟨sp, hkS, hS9⟩, lc, eC, nC, mC, cf9, lt, eT, nT, mT, tf, hMo⟩, P, cf, bf, a9, q9, nc, t9, rfl, hSd⟩ := id hJ
  have hWa : zWa g aC 19998 := by rw [show aC = P 1 from Value.ref.inj (hC.symm.trans hSd.1.2.1.1)]; exact (hSd.1.wa hSd.2.2.2.2.2.1).mono2 (by have := hSd.2.2.2.2.1; omega)
  refine lv_aload_n hx hb dL_law_398 rfl (lv_at hl 1 rfl) ?_
  refine lv_aload_n hx hb dL_law_399 rfl (lv_at hl 0 rfl) ?_
  refine lv_iload hx hb dL_law_400 (lv_at hl 5 rfl) ?_
  refine lv_iconst (v := 1) hx hb dL_law_402 (by decide) ?_
  refine lv_iadd hx hb dL_law_403 ?_
  rw [show nI (4 * k) + 1 = nI (4 * k + 1) from nI_add _ _]
  refine va_sld hx hb hX hbl hbA hI.2.1 (vp_in_nI (show 4 * k + 1 < N from by omega) (by omega)) dL_law_404 ?_
  refine lv_aload_n hx hb dL_law_405 rfl (lv_at hl 0 rfl) ?_
  refine lv_iload hx hb dL_law_406 (lv_at hl 5 rfl) ?_
  refine lv_iconst (v := 2) hx hb dL_law_408 (by decide) ?_
  refine lv_iadd hx hb dL_law_409 ?_
  rw [show nI (4 * k) + 2 = nI (4 * k + 2) from nI_add _ _]
  refine va_sld hx hb hX hbl hbA hI.2.1 (vp_in_nI (show 4 * k + 2 < N from by omega) (by omega)) dL_law_410 ?_
  refine lv_i2c hx hb dL_law_411 rfl ?_
  refine lv_aload_n hx hb dL_law_412 rfl (lv_at hl 0 rfl) ?_
  refine lv_iload hx hb dL_law_413 (lv_at hl 5 rfl) ?_
  refine lv_iconst (v := 3) hx hb dL_law_415 (by decide) ?_
  refine lv_iadd hx hb dL_law_416 ?_
  rw [show nI (4 * k) + 3 = nI (4 * k + 3) from nI_add _ _]
  refine va_sld hx hb hX hbl hbA hI.2.1 (vp_in_nI (show 4 * k + 3 < N from by omega) (by omega)) dL_law_417 ?_
  refine lv_aload_n hx hb dL_law_418 rfl (lv_at hl 3 rfl) ?_
  refine z_xi hI (vx_runSX (As := [.ref (P 0), .int (xs (nI (4 * k + 1)).toNatClampNeg), .int (((xs (nI (4 * k + 2)).toNatClampNeg).toUInt32 % 65536).toInt32), .int (xs (nI (4 * k + 3)).toNatClampNeg), .ref po]) (rest := []) ⟨hx, hb, hml, hown, hts⟩ (c_L_governor l hnt D tc z0 _ κ g _ (P 0) hkx (xs (nI (4 * k + 1)).toNatClampNeg) (((xs (nI (4 * k + 2)).toNatClampNeg).toUInt32 % 65536).toInt32) (pk_fc _) (xs (nI (4 * k + 3)).toNatClampNeg) po hko aC hC) (vx_cwSW 5 hts gL_law_L_governor rfl rfl rfl (by decide +kernel) ⟨Nat.le_of_ble_eq_true rfl, Nat.le_of_ble_eq_true rfl⟩) (z_pre (Xc := []) hK hE hI [] rfl rfl) rfl rfl hl.1 rfl (lv_room (Nat.le_of_ble_eq_true rfl)) dL_law_419 ⟨(show 60 + 20 * k + 37 * t + 2 ≤ 798071 from by omega), (show 400 + 120 * k + 162 * t + 12 ≤ 6701890 from by omega)⟩) (fun E ce q9 u H locs hw hI he1 he2 he3 => hw.elim) (fun v u H locs hw hI => ?_)
  obtain ⟨L1, κ1, g1⟩ := u
  have hI : zI D tc (zA [] [] s.heap.size) s.heap [] L1 κ1 g1 H locs := hI
  have hJ : zJ κ1 g1 z0 (P 0) pm rq t (k + 1) ∧ κ1 po = 29 ∧ κ1 pd = 30 := by
    rcases hw with ⟨_, r1, u1, v9, hp, hu⟩ | ⟨_, hp⟩ | ⟨_, hp⟩
    · cases hu
      have hp9 : u1 = (L, κ, g) := by first | exact hp | exact hp.2 | exact hp.2.2 | exact hp.2.2.2
      cases hp9
      exact ⟨(hJ.up hko (by decide)).more, hko, hkd⟩
    · obtain ⟨_, hp⟩ := hp
      cases hp
      exact ⟨hJ.more, hko, hkd⟩
    · obtain ⟨_, hp⟩ := hp
      cases hp
      exact ⟨hJ.more, hko, hkd⟩
  obtain ⟨hJ, hko, hkd⟩ := hJ
  clear hw
  obtain ⟨L, rfl⟩ : ∃ x, x = L1 := ⟨_, rfl⟩
  obtain ⟨κ, rfl⟩ : ∃ x, x = κ1 := ⟨_, rfl⟩
  obtain ⟨g, rfl⟩ : ∃ x, x = g1 := ⟨_, rfl⟩
  refine lv_istore (lv' := [(6, .int v), (0, .ref b), (1, .ref (P 0)), (2, .ref pm), (3, .ref po), (4, .ref pd), (5, .int (nI (4 * k)))]) hx hb dL_law_422 hl (by decide) rfl (fun ls hl => ?_)
  refine lv_aload_n hx hb dL_law_424 rfl (lv_at hl 3 rfl) ?_
  refine lv_aload_n hx hb dL_law_425 rfl (lv_at hl 1 rfl) ?_
  refine lv_iload hx hb dL_law_426 (lv_at hl 6 rfl) ?_
  refine lv_iconst (v := 1) hx hb dL_law_428 (by decide) ?_
  refine lv_iadd hx hb dL_law_429 ?_
  rw [show nI (4 * k) + 1 = nI (4 * k + 1) from nI_add _ _]
  refine va_sld hx hb hX hbl hbA hI.2.1 (vp_in_nI (show 4 * k + 1 < N from by omega) (by omega)) dL_law_430 ?_
  refine lv_aload_n hx hb dL_law_431 rfl (lv_at hl 1 rfl) ?_
  refine lv_iload hx hb dL_law_432 (lv_at hl 6 rfl) ?_
  refine lv_iconst (v := 2) hx hb dL_law_434 (by decide) ?_
  refine lv_iadd hx hb dL_law_435 ?_
  rw [show nI (4 * k) + 2 = nI (4 * k + 2) from nI_add _ _]
  refine va_sld hx hb hX hbl hbA hI.2.1 (vp_in_nI (show 4 * k + 2 < N from by omega) (by omega)) dL_law_436 ?_
  refine lv_i2c hx hb dL_law_437 rfl ?_
  refine lv_aload_n hx hb dL_law_438 rfl (lv_at hl 1 rfl) ?_
  refine lv_iload hx hb dL_law_439 (lv_at hl 6 rfl) ?_
  refine lv_iconst (v := 3) hx hb dL_law_441 (by decide) ?_
  refine lv_iadd hx hb dL_law_442 ?_
  rw [show nI (4 * k) + 3 = nI (4 * k + 3) from nI_add _ _]
  refine va_sld hx hb hX hbl hbA hI.2.1 (vp_in_nI (show 4 * k + 3 < N from by omega) (by omega)) dL_law_443 ?_
  obtain ⟨⟨⟨hkx, hkm, hkq⟩, hR, ⟨htM, htb⟩, ⟨aC, hkC, hC⟩, ⟨aT, hkT, hT⟩, ⟨co, hkO, hO⟩, ⟨sp, hkS, hS9⟩, lc, eC, nC, mC, cf9, lt, eT, nT, mT, tf, hMo⟩, -⟩ := id hJ
  refine z_ci hI (va_runV (As := [.int (xs (nI (4 * k + 1)).toNatClampNeg), .int (((xs (nI (4 * k + 2)).toNatClampNeg).toUInt32 % 65536).toInt32), .int (xs (nI (4 * k + 3)).toNatClampNeg)]) (rest := []) ⟨hx, hb, hml, hown, hts⟩ (c_X11_governor l D tc z0 _ κ g _ pm hkm (xs (nI (4 * k + 1)).toNatClampNeg) (((xs (nI (4 * k + 2)).toNatClampNeg).toUInt32 % 65536).toInt32) (pk_fc _) (xs (nI (4 * k + 3)).toNatClampNeg) lc eC nC mC cf9 lt eT nT mT tf hMo ) (cwV 3 hts gL_law_X11_governor rfl rfl rfl (by decide +kernel) ⟨Nat.le_of_ble_eq_true rfl, Nat.le_of_ble_eq_true rfl⟩) (z_preV (Xc := []) hK hE hI [] rfl rfl (z_recv hK hI hkm rfl rfl)) rfl rfl hl.1 rfl (lv_room (Nat.le_of_ble_eq_true rfl)) dL_law_444 ⟨(show 60 + 20 * k + 37 * t + 2 + 0 ≤ 798071 from by omega), (show 400 + 120 * k + 162 * t + 12 + 0 ≤ 6701890 from by omega)⟩) (fun w u H locs hw hI => ?_)
  obtain ⟨L1, κ1, g1⟩ := u
  have hI : zI D tc (zA [] [] s.heap.size) s.heap [] L1 κ1 g1 H locs := hI
  have hJ : zJ κ1 g1 z0 (P 0) pm rq t (k + 1) ∧ κ1 po = 29 ∧ κ1 pd = 30 := by
    rcases hw with ⟨_, _, hu⟩ | ⟨i9, hi9, _, _, hu⟩
    · cases hu
      exact ⟨hJ.upM (by decide), hko, hkd⟩
    · cases hu
      exact ⟨(hJ.upM (by decide)).up (hMo.LC.el hi9) (by decide), hko, hkd⟩
  obtain ⟨hJ, hko, hkd⟩ := hJ
  obtain ⟨L, rfl⟩ : ∃ x, x = L1 := ⟨_, rfl⟩
  obtain ⟨κ, rfl⟩ : ∃ x, x = κ1 := ⟨_, rfl⟩
  obtain ⟨g, rfl⟩ : ∃ x, x = g1 := ⟨_, rfl⟩
  refine lv_istore (lv' := [(7, .int w), (6, .int v), (0, .ref b), (1, .ref (P 0)), (2, .ref pm), (3, .ref po), (4, .ref pd), (5, .int (nI (4 * k)))]) hx hb dL_law_447 hl (by decide) rfl (fun ls hl => ?_)
  refine lv_goto (tgt := 1364) hx hb dL_law_449 (by decide) ?_
  have hl := lv_sub hl [2, 3, 4, 5, 6, 7] (l' := [(0, .ref b), (1, .ref (P 0)), (2, .ref pm), (3, .ref po), (4, .ref pd), (5, .int (nI (4 * k)))]) rfl
  refine W.widen (k := 60 + 20 * (k + 1) + 37 * t) (n := 400 + 120 * (k + 1) + 162 * t) (by omega) (by omega) ?_
  refine W.base ?_
  exact hN s.drawn L κ g _ _ _ _ (Drawn.sameBut.refl _ _) hJ hko hkd hI hl

set_option maxHeartbeats 4000000 in
set_option maxRecDepth 100000 in
theorem k_work (l : Launch) (hnt : l.stackTraces = false) {p : Program} {e : Env} {s : State} {m : MethodId} {below : List Frame} {meth : Method} {c : Code} {H : Heap} {locs : List Loc} {Q : State → Prop} {D : va_G} {tc : Nat → ClassId} {z0 b N : Nat} {xs : Nat → Int32} {px pm po pd rq t k : Nat} {L : List Nat} {κ : Nat → Nat} {g : Nat → Nat → Value} {ls : Array Slot} (C : lwC p s m meth c b N xs D tc z0) (hk : 4 * k + 4 ≤ N) (hN8 : N ≤ 2048) (hJ : zJ κ g z0 px pm rq t k) (hko : κ po = 29) (hkd : κ pd = 30) (hI : zI D tc (zA [] [] s.heap.size) s.heap [] L κ g H locs) (hl : lv_has ls 9 [(0, .ref b), (1, .ref px), (2, .ref pm), (3, .ref po), (4, .ref pd), (5, .int (nI (4 * k)))]) (hN : lwN p l e s m below meth c b D tc z0 px pm po pd rq k Q) : W p l e room_1 s m #[Value.ref b] below meth c H locs (60 + 20 * k + 37 * t) (400 + 120 * k + 162 * t) Q (F0 m 452 ls []) := by
  obtain ⟨hx, hb, hml, hown, hts, hK, hE, hX, hbl⟩ := C
  have hbA : ¬ zA [] [] s.heap.size b := fun q => by rcases q with q | q | q; exact absurd q List.not_mem_nil; exact absurd q List.not_mem_nil; exact absurd hbl (Nat.not_lt.mpr q)
  have htb9 : t ≤ 9999 := hJ.1.2.2.1.2
  obtain ⟨⟨⟨hkx, hkm, hkq⟩, hR, ⟨htM, htb⟩, ⟨aC, hkC, hC⟩, ⟨aT, hkT, hT⟩, ⟨co, hkO, hO⟩, ⟨sp, hkS, hS9⟩, lc, eC, nC, mC, cf9, lt, eT, nT, mT, tf, hMo⟩, P, cf, bf, a9, q9, nc, t9, rfl, hSd⟩ := id hJ
  have hWa : zWa g aC 19998 := by rw [show aC = P 1 from Value.ref.inj (hC.symm.trans hSd.1.2.1.1)]; exact (hSd.1.wa hSd.2.2.2.2.2.1).mono2 (by have := hSd.2.2.2.2.1; omega)
  refine lv_aload_n hx hb dL_law_452 rfl (lv_at hl 1 rfl) ?_
  refine lv_aload_n hx hb dL_law_453 rfl (lv_at hl 0 rfl) ?_
  refine lv_iload hx hb dL_law_454 (lv_at hl 5 rfl) ?_
  refine lv_iconst (v := 1) hx hb dL_law_456 (by decide) ?_
  refine lv_iadd hx hb dL_law_457 ?_
  rw [show nI (4 * k) + 1 = nI (4 * k + 1) from nI_add _ _]
  refine va_sld hx hb hX hbl hbA hI.2.1 (vp_in_nI (show 4 * k + 1 < N from by omega) (by omega)) dL_law_458 ?_
  refine lv_aload_n hx hb dL_law_459 rfl (lv_at hl 3 rfl) ?_
  refine z_xi hI (vx_runSX (As := [.ref (P 0), .int (xs (nI (4 * k + 1)).toNatClampNeg), .ref po]) (rest := []) ⟨hx, hb, hml, hown, hts⟩ (c_L_work l hnt D tc z0 _ κ g _ (P 0) hkx (xs (nI (4 * k + 1)).toNatClampNeg) po hko aT hT) (vx_cwSW 3 hts gL_law_L_work rfl rfl rfl (by decide +kernel) ⟨Nat.le_of_ble_eq_true rfl, Nat.le_of_ble_eq_true rfl⟩) (z_pre (Xc := []) hK hE hI [] rfl rfl) rfl rfl hl.1 rfl (lv_room (Nat.le_of_ble_eq_true rfl)) dL_law_460 ⟨(show 60 + 20 * k + 37 * t + 1 ≤ 798071 from by omega), (show 400 + 120 * k + 162 * t + 6 ≤ 6701890 from by omega)⟩) (fun E ce q9 u H locs hw hI he1 he2 he3 => hw.elim) (fun v u H locs hw hI => ?_)
  obtain ⟨L1, κ1, g1⟩ := u
  have hI : zI D tc (zA [] [] s.heap.size) s.heap [] L1 κ1 g1 H locs := hI
  have hJ : zJ κ1 g1 z0 (P 0) pm rq t (k + 1) ∧ κ1 po = 29 ∧ κ1 pd = 30 := by
    rcases hw with ⟨_, r1, u1, v9, hp, hu⟩ | ⟨_, hp⟩
    · cases hu
      have hp9 : u1 = (L, κ, g) := by first | exact hp | exact hp.2 | exact hp.2.2 | exact hp.2.2.2
      cases hp9
      exact ⟨(hJ.up hko (by decide)).more, hko, hkd⟩
    · obtain ⟨_, hp⟩ := hp
      cases hp
      exact ⟨hJ.more, hko, hkd⟩
  obtain ⟨hJ, hko, hkd⟩ := hJ
  clear hw
  obtain ⟨L, rfl⟩ : ∃ x, x = L1 := ⟨_, rfl⟩
  obtain ⟨κ, rfl⟩ : ∃ x, x = κ1 := ⟨_, rfl⟩
  obtain ⟨g, rfl⟩ : ∃ x, x = g1 := ⟨_, rfl⟩
  refine lv_istore (lv' := [(6, .int v), (0, .ref b), (1, .ref (P 0)), (2, .ref pm), (3, .ref po), (4, .ref pd), (5, .int (nI (4 * k)))]) hx hb dL_law_463 hl (by decide) rfl (fun ls hl => ?_)
  refine lv_aload_n hx hb dL_law_465 rfl (lv_at hl 3 rfl) ?_
  refine lv_aload_n hx hb dL_law_466 rfl (lv_at hl 1 rfl) ?_
  refine lv_iload hx hb dL_law_467 (lv_at hl 6 rfl) ?_
  refine lv_iconst (v := 1) hx hb dL_law_469 (by decide) ?_
  refine lv_iadd hx hb dL_law_470 ?_
  rw [show nI (4 * k) + 1 = nI (4 * k + 1) from nI_add _ _]
  refine va_sld hx hb hX hbl hbA hI.2.1 (vp_in_nI (show 4 * k + 1 < N from by omega) (by omega)) dL_law_471 ?_
  obtain ⟨⟨⟨hkx, hkm, hkq⟩, hR, ⟨htM, htb⟩, ⟨aC, hkC, hC⟩, ⟨aT, hkT, hT⟩, ⟨co, hkO, hO⟩, ⟨sp, hkS, hS9⟩, lc, eC, nC, mC, cf9, lt, eT, nT, mT, tf, hMo⟩, -⟩ := id hJ
  refine z_ci hI (va_runV (As := [.int (xs (nI (4 * k + 1)).toNatClampNeg)]) (rest := []) ⟨hx, hb, hml, hown, hts⟩ (c_X11_work l D tc z0 _ κ g _ pm hkm (xs (nI (4 * k + 1)).toNatClampNeg) lc eC nC mC cf9 lt eT nT mT tf hMo ) (cwV 1 hts gL_law_X11_work rfl rfl rfl (by decide +kernel) ⟨Nat.le_of_ble_eq_true rfl, Nat.le_of_ble_eq_true rfl⟩) (z_preV (Xc := []) hK hE hI [] rfl rfl (z_recv hK hI hkm rfl rfl)) rfl rfl hl.1 rfl (lv_room (Nat.le_of_ble_eq_true rfl)) dL_law_472 ⟨(show 60 + 20 * k + 37 * t + 1 + 0 ≤ 798071 from by omega), (show 400 + 120 * k + 162 * t + 6 + 0 ≤ 6701890 from by omega)⟩) (fun w u H locs hw hI => ?_)
  obtain ⟨x9, rfl⟩ := hw
  have hJ := hJ.upM (j := 12) (v := .int x9) (by decide)
  have hI : zI D tc (zA [] [] s.heap.size) s.heap [] L κ (zup g pm 12 (.int x9)) H locs := hI
  generalize (zup g pm 12 (.int x9)) = g at hI hJ
  refine lv_istore (lv' := [(7, .int w), (6, .int v), (0, .ref b), (1, .ref (P 0)), (2, .ref pm), (3, .ref po), (4, .ref pd), (5, .int (nI (4 * k)))]) hx hb dL_law_475 hl (by decide) rfl (fun ls hl => ?_)
  refine lv_goto (tgt := 1364) hx hb dL_law_477 (by decide) ?_
  have hl := lv_sub hl [2, 3, 4, 5, 6, 7] (l' := [(0, .ref b), (1, .ref (P 0)), (2, .ref pm), (3, .ref po), (4, .ref pd), (5, .int (nI (4 * k)))]) rfl
  refine W.widen (k := 60 + 20 * (k + 1) + 37 * t) (n := 400 + 120 * (k + 1) + 162 * t) (by omega) (by omega) ?_
  refine W.base ?_
  exact hN s.drawn L κ g _ _ _ _ (Drawn.sameBut.refl _ _) hJ hko hkd hI hl

set_option maxHeartbeats 4000000 in
set_option maxRecDepth 100000 in
theorem k_isCold (l : Launch) (hnt : l.stackTraces = false) {p : Program} {e : Env} {s : State} {m : MethodId} {below : List Frame} {meth : Method} {c : Code} {H : Heap} {locs : List Loc} {Q : State → Prop} {D : va_G} {tc : Nat → ClassId} {z0 b N : Nat} {xs : Nat → Int32} {px pm po pd rq t k : Nat} {L : List Nat} {κ : Nat → Nat} {g : Nat → Nat → Value} {ls : Array Slot} (C : lwC p s m meth c b N xs D tc z0) (hk : 4 * k + 4 ≤ N) (hN8 : N ≤ 2048) (hJ : zJ κ g z0 px pm rq t k) (hko : κ po = 29) (hkd : κ pd = 30) (hI : zI D tc (zA [] [] s.heap.size) s.heap [] L κ g H locs) (hl : lv_has ls 9 [(0, .ref b), (1, .ref px), (2, .ref pm), (3, .ref po), (4, .ref pd), (5, .int (nI (4 * k)))]) (hN : lwN p l e s m below meth c b D tc z0 px pm po pd rq k Q) : W p l e room_1 s m #[Value.ref b] below meth c H locs (60 + 20 * k + 37 * t) (400 + 120 * k + 162 * t) Q (F0 m 480 ls []) := by
  obtain ⟨hx, hb, hml, hown, hts, hK, hE, hX, hbl⟩ := C
  have hbA : ¬ zA [] [] s.heap.size b := fun q => by rcases q with q | q | q; exact absurd q List.not_mem_nil; exact absurd q List.not_mem_nil; exact absurd hbl (Nat.not_lt.mpr q)
  have htb9 : t ≤ 9999 := hJ.1.2.2.1.2
  obtain ⟨⟨⟨hkx, hkm, hkq⟩, hR, ⟨htM, htb⟩, ⟨aC, hkC, hC⟩, ⟨aT, hkT, hT⟩, ⟨co, hkO, hO⟩, ⟨sp, hkS, hS9⟩, lc, eC, nC, mC, cf9, lt, eT, nT, mT, tf, hMo⟩, P, cf, bf, a9, q9, nc, t9, rfl, hSd⟩ := id hJ
  have hWa : zWa g aC 19998 := by rw [show aC = P 1 from Value.ref.inj (hC.symm.trans hSd.1.2.1.1)]; exact (hSd.1.wa hSd.2.2.2.2.2.1).mono2 (by have := hSd.2.2.2.2.1; omega)
  refine lv_aload_n hx hb dL_law_480 rfl (lv_at hl 1 rfl) ?_
  refine lv_aload_n hx hb dL_law_481 rfl (lv_at hl 0 rfl) ?_
  refine lv_iload hx hb dL_law_482 (lv_at hl 5 rfl) ?_
  refine lv_iconst (v := 1) hx hb dL_law_484 (by decide) ?_
  refine lv_iadd hx hb dL_law_485 ?_
  rw [show nI (4 * k) + 1 = nI (4 * k + 1) from nI_add _ _]
  refine va_sld hx hb hX hbl hbA hI.2.1 (vp_in_nI (show 4 * k + 1 < N from by omega) (by omega)) dL_law_486 ?_
  refine lv_aload_n hx hb dL_law_487 rfl (lv_at hl 3 rfl) ?_
  refine z_xi hI (vx_runSX (As := [.ref (P 0), .int (xs (nI (4 * k + 1)).toNatClampNeg), .ref po]) (rest := []) ⟨hx, hb, hml, hown, hts⟩ (c_L_isCold l hnt D tc z0 _ κ g _ (P 0) hkx (xs (nI (4 * k + 1)).toNatClampNeg) po hko aT hT) (vx_cwSW 3 hts gL_law_L_isCold rfl rfl rfl (by decide +kernel) ⟨Nat.le_of_ble_eq_true rfl, Nat.le_of_ble_eq_true rfl⟩) (z_pre (Xc := []) hK hE hI [] rfl rfl) rfl rfl hl.1 rfl (lv_room (Nat.le_of_ble_eq_true rfl)) dL_law_488 ⟨(show 60 + 20 * k + 37 * t + 1 ≤ 798071 from by omega), (show 400 + 120 * k + 162 * t + 6 ≤ 6701890 from by omega)⟩) (fun E ce q9 u H locs hw hI he1 he2 he3 => hw.elim) (fun v u H locs hw hI => ?_)
  obtain ⟨L1, κ1, g1⟩ := u
  have hI : zI D tc (zA [] [] s.heap.size) s.heap [] L1 κ1 g1 H locs := hI
  have hJ : zJ κ1 g1 z0 (P 0) pm rq t (k + 1) ∧ κ1 po = 29 ∧ κ1 pd = 30 := by
    rcases hw with ⟨_, r1, u1, v9, hp, hu⟩ | ⟨_, hp⟩
    · cases hu
      have hp9 : u1 = (L, κ, g) := by first | exact hp | exact hp.2 | exact hp.2.2 | exact hp.2.2.2
      cases hp9
      exact ⟨(hJ.up hko (by decide)).more, hko, hkd⟩
    · obtain ⟨_, hp⟩ := hp
      cases hp
      exact ⟨hJ.more, hko, hkd⟩
  obtain ⟨hJ, hko, hkd⟩ := hJ
  clear hw
  obtain ⟨L, rfl⟩ : ∃ x, x = L1 := ⟨_, rfl⟩
  obtain ⟨κ, rfl⟩ : ∃ x, x = κ1 := ⟨_, rfl⟩
  obtain ⟨g, rfl⟩ : ∃ x, x = g1 := ⟨_, rfl⟩
  refine lv_istore (lv' := [(6, .int v), (0, .ref b), (1, .ref (P 0)), (2, .ref pm), (3, .ref po), (4, .ref pd), (5, .int (nI (4 * k)))]) hx hb dL_law_491 hl (by decide) rfl (fun ls hl => ?_)
  refine lv_aload_n hx hb dL_law_493 rfl (lv_at hl 3 rfl) ?_
  refine lv_aload_n hx hb dL_law_494 rfl (lv_at hl 1 rfl) ?_
  refine lv_iload hx hb dL_law_495 (lv_at hl 6 rfl) ?_
  refine lv_iconst (v := 1) hx hb dL_law_497 (by decide) ?_
  refine lv_iadd hx hb dL_law_498 ?_
  rw [show nI (4 * k) + 1 = nI (4 * k + 1) from nI_add _ _]
  refine va_sld hx hb hX hbl hbA hI.2.1 (vp_in_nI (show 4 * k + 1 < N from by omega) (by omega)) dL_law_499 ?_
  obtain ⟨⟨⟨hkx, hkm, hkq⟩, hR, ⟨htM, htb⟩, ⟨aC, hkC, hC⟩, ⟨aT, hkT, hT⟩, ⟨co, hkO, hO⟩, ⟨sp, hkS, hS9⟩, lc, eC, nC, mC, cf9, lt, eT, nT, mT, tf, hMo⟩, -⟩ := id hJ
  refine z_ci hI (va_runV (As := [.int (xs (nI (4 * k + 1)).toNatClampNeg)]) (rest := []) ⟨hx, hb, hml, hown, hts⟩ (c_X11_isCold l D tc z0 _ κ g _ pm hkm (xs (nI (4 * k + 1)).toNatClampNeg) lc eC nC mC cf9 lt eT nT mT tf hMo ) (cwV 1 hts gL_law_X11_isCold rfl rfl rfl (by decide +kernel) ⟨Nat.le_of_ble_eq_true rfl, Nat.le_of_ble_eq_true rfl⟩) (z_preV (Xc := []) hK hE hI [] rfl rfl (z_recv hK hI hkm rfl rfl)) rfl rfl hl.1 rfl (lv_room (Nat.le_of_ble_eq_true rfl)) dL_law_500 ⟨(show 60 + 20 * k + 37 * t + 1 + 0 ≤ 798071 from by omega), (show 400 + 120 * k + 162 * t + 6 + 0 ≤ 6701890 from by omega)⟩) (fun w u H locs hw hI => ?_)
  obtain ⟨x9, rfl⟩ := hw
  have hJ := hJ.upM (j := 12) (v := .int x9) (by decide)
  have hI : zI D tc (zA [] [] s.heap.size) s.heap [] L κ (zup g pm 12 (.int x9)) H locs := hI
  generalize (zup g pm 12 (.int x9)) = g at hI hJ
  refine lv_istore (lv' := [(7, .int w), (6, .int v), (0, .ref b), (1, .ref (P 0)), (2, .ref pm), (3, .ref po), (4, .ref pd), (5, .int (nI (4 * k)))]) hx hb dL_law_503 hl (by decide) rfl (fun ls hl => ?_)
  refine lv_goto (tgt := 1364) hx hb dL_law_505 (by decide) ?_
  have hl := lv_sub hl [2, 3, 4, 5, 6, 7] (l' := [(0, .ref b), (1, .ref (P 0)), (2, .ref pm), (3, .ref po), (4, .ref pd), (5, .int (nI (4 * k)))]) rfl
  refine W.widen (k := 60 + 20 * (k + 1) + 37 * t) (n := 400 + 120 * (k + 1) + 162 * t) (by omega) (by omega) ?_
  refine W.base ?_
  exact hN s.drawn L κ g _ _ _ _ (Drawn.sameBut.refl _ _) hJ hko hkd hI hl

set_option maxHeartbeats 4000000 in
set_option maxRecDepth 100000 in
theorem k_pass (l : Launch) (hnt : l.stackTraces = false) {p : Program} {e : Env} {s : State} {m : MethodId} {below : List Frame} {meth : Method} {c : Code} {H : Heap} {locs : List Loc} {Q : State → Prop} {D : va_G} {tc : Nat → ClassId} {z0 b N : Nat} {xs : Nat → Int32} {px pm po pd rq t k : Nat} {L : List Nat} {κ : Nat → Nat} {g : Nat → Nat → Value} {ls : Array Slot} (C : lwC p s m meth c b N xs D tc z0) (hk : 4 * k + 4 ≤ N) (hN8 : N ≤ 2048) (hJ : zJ κ g z0 px pm rq t k) (hko : κ po = 29) (hkd : κ pd = 30) (hI : zI D tc (zA [] [] s.heap.size) s.heap [] L κ g H locs) (hl : lv_has ls 9 [(0, .ref b), (1, .ref px), (2, .ref pm), (3, .ref po), (4, .ref pd), (5, .int (nI (4 * k)))]) (hN : lwN p l e s m below meth c b D tc z0 px pm po pd rq k Q) : W p l e room_1 s m #[Value.ref b] below meth c H locs (60 + 20 * k + 37 * t) (400 + 120 * k + 162 * t) Q (F0 m 508 ls []) := by
  obtain ⟨hx, hb, hml, hown, hts, hK, hE, hX, hbl⟩ := C
  have hbA : ¬ zA [] [] s.heap.size b := fun q => by rcases q with q | q | q; exact absurd q List.not_mem_nil; exact absurd q List.not_mem_nil; exact absurd hbl (Nat.not_lt.mpr q)
  have htb9 : t ≤ 9999 := hJ.1.2.2.1.2
  obtain ⟨⟨⟨hkx, hkm, hkq⟩, hR, ⟨htM, htb⟩, ⟨aC, hkC, hC⟩, ⟨aT, hkT, hT⟩, ⟨co, hkO, hO⟩, ⟨sp, hkS, hS9⟩, lc, eC, nC, mC, cf9, lt, eT, nT, mT, tf, hMo⟩, P, cf, bf, a9, q9, nc, t9, rfl, hSd⟩ := id hJ
  have hWa : zWa g aC 19998 := by rw [show aC = P 1 from Value.ref.inj (hC.symm.trans hSd.1.2.1.1)]; exact (hSd.1.wa hSd.2.2.2.2.2.1).mono2 (by have := hSd.2.2.2.2.1; omega)
  refine lv_aload_n hx hb dL_law_508 rfl (lv_at hl 1 rfl) ?_
  refine lv_aload_n hx hb dL_law_509 rfl (lv_at hl 0 rfl) ?_
  refine lv_iload hx hb dL_law_510 (lv_at hl 5 rfl) ?_
  refine lv_iconst (v := 1) hx hb dL_law_512 (by decide) ?_
  refine lv_iadd hx hb dL_law_513 ?_
  rw [show nI (4 * k) + 1 = nI (4 * k + 1) from nI_add _ _]
  refine va_sld hx hb hX hbl hbA hI.2.1 (vp_in_nI (show 4 * k + 1 < N from by omega) (by omega)) dL_law_514 ?_
  refine lv_aload_n hx hb dL_law_515 rfl (lv_at hl 3 rfl) ?_
  refine z_xi hI (vx_runSX (As := [.ref (P 0), .int (xs (nI (4 * k + 1)).toNatClampNeg), .ref po]) (rest := []) ⟨hx, hb, hml, hown, hts⟩ (c_L_pass l hnt D tc z0 _ κ g _ P hkx (xs (nI (4 * k + 1)).toNatClampNeg) po hko cf bf a9 q9 nc t9 k hSd (by omega)) (vx_cwSW 3 hts gL_law_L_pass rfl rfl rfl (by decide +kernel) ⟨Nat.le_of_ble_eq_true rfl, Nat.le_of_ble_eq_true rfl⟩) (z_pre (Xc := []) hK hE hI [] rfl rfl) rfl rfl hl.1 rfl (lv_room (Nat.le_of_ble_eq_true rfl)) dL_law_516 ⟨(show 60 + 20 * k + 37 * t + 1 ≤ 798071 from by omega), (show 400 + 120 * k + 162 * t + 6 ≤ 6701890 from by omega)⟩) (fun E ce q9 u H locs hw hI he1 he2 he3 => hw.elim) (fun v u H locs hw hI => ?_)
  obtain ⟨L1, κ1, g1⟩ := u
  have hI : zI D tc (zA [] [] s.heap.size) s.heap [] L1 κ1 g1 H locs := hI
  have hJ : zJ κ1 g1 z0 (P 0) pm rq t (k + 1) ∧ κ1 po = 29 ∧ κ1 pd = 30 := by
    rcases hw with ⟨_, r1, u1, v9, hp, hu⟩ | ⟨_, hp⟩ | ⟨_, hp⟩
    · cases hu
      obtain ⟨g9, n9, h8, hS8, ho8, -⟩ := hp
      obtain ⟨L9, κ9, g8⟩ := u1
      cases h8
      exact ⟨(zJ.mk (hJ.1.out ho8) hS8).up hko (by decide), hko, hkd⟩
    · obtain ⟨_, hp⟩ := hp
      cases hp
      exact ⟨hJ.more, hko, hkd⟩
    · obtain ⟨_, hp⟩ := hp
      cases hp
      exact ⟨hJ.more, hko, hkd⟩
  obtain ⟨hJ, hko, hkd⟩ := hJ
  clear hw
  obtain ⟨L, rfl⟩ : ∃ x, x = L1 := ⟨_, rfl⟩
  obtain ⟨κ, rfl⟩ : ∃ x, x = κ1 := ⟨_, rfl⟩
  obtain ⟨g, rfl⟩ : ∃ x, x = g1 := ⟨_, rfl⟩
  refine lv_istore (lv' := [(6, .int v), (0, .ref b), (1, .ref (P 0)), (2, .ref pm), (3, .ref po), (4, .ref pd), (5, .int (nI (4 * k)))]) hx hb dL_law_519 hl (by decide) rfl (fun ls hl => ?_)
  refine lv_aload_n hx hb dL_law_521 rfl (lv_at hl 3 rfl) ?_
  refine lv_aload_n hx hb dL_law_522 rfl (lv_at hl 1 rfl) ?_
  refine lv_iload hx hb dL_law_523 (lv_at hl 6 rfl) ?_
  refine lv_iconst (v := 1) hx hb dL_law_525 (by decide) ?_
  refine lv_iadd hx hb dL_law_526 ?_
  rw [show nI (4 * k) + 1 = nI (4 * k + 1) from nI_add _ _]
  refine va_sld hx hb hX hbl hbA hI.2.1 (vp_in_nI (show 4 * k + 1 < N from by omega) (by omega)) dL_law_527 ?_
  obtain ⟨⟨⟨hkx, hkm, hkq⟩, hR, ⟨htM, htb⟩, ⟨aC, hkC, hC⟩, ⟨aT, hkT, hT⟩, ⟨co, hkO, hO⟩, ⟨sp, hkS, hS9⟩, lc, eC, nC, mC, cf9, lt, eT, nT, mT, tf, hMo⟩, -⟩ := id hJ
  obtain ⟨h9, hh9⟩ := z_gi (j := 14) hI hkm rfl rfl
  obtain ⟨w9, hw9⟩ := z_gi (j := 16) hI hkm rfl rfl
  generalize (xs (nI (4 * k + 1)).toNatClampNeg) = x1
  by_cases hq : ∃ i1 : Nat, x1 = nI i1 ∧ (1 ≤ i1 ∧ i1 ≤ 100) ∧ t + i1 ≤ 9999
  · obtain ⟨i1, rfl, ⟨hi1, hi2⟩, hi3⟩ := hq
    refine z_ci hI (va_runV (As := [.int (nI i1)]) (rest := []) ⟨hx, hb, hml, hown, hts⟩ (c_X11_pass l D tc z0 _ κ g _ pm hkm i1 lc eC nC mC cf9 lt eT nT mT tf hMo hi1 hi2 (nI t) htM w9 hw9 h9 hh9 (by rw [nI_add]; exact nI_le (b := 9999) hi3 (by decide))) (cwV 1 hts gL_law_X11_pass rfl rfl rfl (by decide +kernel) ⟨Nat.le_of_ble_eq_true rfl, Nat.le_of_ble_eq_true rfl⟩) (z_preV (Xc := []) hK hE hI [] rfl rfl (z_recv hK hI hkm rfl rfl)) rfl rfl hl.1 rfl (lv_room (Nat.le_of_ble_eq_true rfl)) dL_law_528 ⟨(show 60 + 20 * k + 37 * t + 1 + 37 * i1 ≤ 798071 from by omega), (show 400 + 120 * k + 162 * t + 6 + 162 * i1 ≤ 6701890 from by omega)⟩) (fun w u H locs hw hI => ?_)
    obtain ⟨-, g2, rfl, hk9⟩ := hw
    have hJ : zJ κ g2 z0 (P 0) pm rq (t + i1) (k + 1) := (hJ.upM (j := 12) (v := .int 0) (by decide)).tkM hk9 hi3
    have hI : zI D tc (zA [] [] s.heap.size) s.heap [] L κ g2 H locs := hI
    refine lv_istore (lv' := [(7, .int w), (6, .int v), (0, .ref b), (1, .ref (P 0)), (2, .ref pm), (3, .ref po), (4, .ref pd), (5, .int (nI (4 * k)))]) hx hb dL_law_531 hl (by decide) rfl (fun ls hl => ?_)
    refine lv_goto (tgt := 1364) hx hb dL_law_533 (by decide) ?_
    have hl := lv_sub hl [2, 3, 4, 5, 6, 7] (l' := [(0, .ref b), (1, .ref (P 0)), (2, .ref pm), (3, .ref po), (4, .ref pd), (5, .int (nI (4 * k)))]) rfl
    refine W.widen (k := 60 + 20 * (k + 1) + 37 * (t + i1)) (n := 400 + 120 * (k + 1) + 162 * (t + i1)) (by omega) (by omega) ?_
    refine W.base ?_
    exact hN s.drawn L κ g2 _ _ _ _ (Drawn.sameBut.refl _ _) hJ hko hkd hI hl
  · skip
    refine z_ci hI (va_runV (As := [.int x1]) (rest := []) ⟨hx, hb, hml, hown, hts⟩ (c_X11_pass_bad l D tc z0 _ κ g _ pm hkm x1 (nI t) htM (fun hx1 => by
        obtain ⟨i1, hi1, rfl⟩ := nI_of (x := x1) (fun q => absurd (Int32.lt_of_le_of_lt hx1.1 q) (by decide))
        have h1 : 1 ≤ i1 := (nI_leI (a := 1) (by decide) hi1).mp hx1.1
        have h2 : i1 ≤ 100 := (nI_leI (b := 100) hi1 (by decide)).mp hx1.2
        rw [nI_add]
        exact nI_lt (a := 9999) (by have h3 : ¬ t + i1 ≤ 9999 := fun q => hq ⟨i1, rfl, ⟨h1, h2⟩, q⟩; omega) (by omega))) (cwV 1 hts gL_law_X11_pass rfl rfl rfl (by decide +kernel) ⟨Nat.le_of_ble_eq_true rfl, Nat.le_of_ble_eq_true rfl⟩) (z_preV (Xc := []) hK hE hI [] rfl rfl (z_recv hK hI hkm rfl rfl)) rfl rfl hl.1 rfl (lv_room (Nat.le_of_ble_eq_true rfl)) dL_law_528 ⟨(show 60 + 20 * k + 37 * t + 1 + 0 ≤ 798071 from by omega), (show 400 + 120 * k + 162 * t + 6 + 0 ≤ 6701890 from by omega)⟩) (fun w u H locs hw hI => ?_)
    have hJ : zJ u.2.1 u.2.2 z0 (P 0) pm rq t (k + 1) ∧ u.2.1 po = 29 ∧ u.2.1 pd = 30 := by
      obtain ⟨-, ⟨-, rfl⟩ | ⟨-, rfl⟩⟩ := hw
      · exact ⟨hJ.upM (by decide), hko, hkd⟩
      · exact ⟨hJ.upM (by decide), hko, hkd⟩
    obtain ⟨L, κ, g⟩ := u
    obtain ⟨hJ, hko, hkd⟩ := hJ
    have hI : zI D tc (zA [] [] s.heap.size) s.heap [] L κ g H locs := hI
    refine lv_istore (lv' := [(7, .int w), (6, .int v), (0, .ref b), (1, .ref (P 0)), (2, .ref pm), (3, .ref po), (4, .ref pd), (5, .int (nI (4 * k)))]) hx hb dL_law_531 hl (by decide) rfl (fun ls hl => ?_)
    refine lv_goto (tgt := 1364) hx hb dL_law_533 (by decide) ?_
    have hl := lv_sub hl [2, 3, 4, 5, 6, 7] (l' := [(0, .ref b), (1, .ref (P 0)), (2, .ref pm), (3, .ref po), (4, .ref pd), (5, .int (nI (4 * k)))]) rfl
    refine W.widen (k := 60 + 20 * (k + 1) + 37 * t) (n := 400 + 120 * (k + 1) + 162 * t) (by omega) (by omega) ?_
    refine W.base ?_
    exact hN s.drawn L κ g _ _ _ _ (Drawn.sameBut.refl _ _) hJ hko hkd hI hl

set_option maxHeartbeats 4000000 in
set_option maxRecDepth 100000 in
theorem k_speed (l : Launch) (hnt : l.stackTraces = false) {p : Program} {e : Env} {s : State} {m : MethodId} {below : List Frame} {meth : Method} {c : Code} {H : Heap} {locs : List Loc} {Q : State → Prop} {D : va_G} {tc : Nat → ClassId} {z0 b N : Nat} {xs : Nat → Int32} {px pm po pd rq t k : Nat} {L : List Nat} {κ : Nat → Nat} {g : Nat → Nat → Value} {ls : Array Slot} (C : lwC p s m meth c b N xs D tc z0) (hk : 4 * k + 4 ≤ N) (hN8 : N ≤ 2048) (hJ : zJ κ g z0 px pm rq t k) (hko : κ po = 29) (hkd : κ pd = 30) (hI : zI D tc (zA [] [] s.heap.size) s.heap [] L κ g H locs) (hl : lv_has ls 9 [(0, .ref b), (1, .ref px), (2, .ref pm), (3, .ref po), (4, .ref pd), (5, .int (nI (4 * k)))]) (hN : lwN p l e s m below meth c b D tc z0 px pm po pd rq k Q) : W p l e room_1 s m #[Value.ref b] below meth c H locs (60 + 20 * k + 37 * t) (400 + 120 * k + 162 * t) Q (F0 m 536 ls []) := by
  obtain ⟨hx, hb, hml, hown, hts, hK, hE, hX, hbl⟩ := C
  have hbA : ¬ zA [] [] s.heap.size b := fun q => by rcases q with q | q | q; exact absurd q List.not_mem_nil; exact absurd q List.not_mem_nil; exact absurd hbl (Nat.not_lt.mpr q)
  have htb9 : t ≤ 9999 := hJ.1.2.2.1.2
  obtain ⟨⟨⟨hkx, hkm, hkq⟩, hR, ⟨htM, htb⟩, ⟨aC, hkC, hC⟩, ⟨aT, hkT, hT⟩, ⟨co, hkO, hO⟩, ⟨sp, hkS, hS9⟩, lc, eC, nC, mC, cf9, lt, eT, nT, mT, tf, hMo⟩, P, cf, bf, a9, q9, nc, t9, rfl, hSd⟩ := id hJ
  have hWa : zWa g aC 19998 := by rw [show aC = P 1 from Value.ref.inj (hC.symm.trans hSd.1.2.1.1)]; exact (hSd.1.wa hSd.2.2.2.2.2.1).mono2 (by have := hSd.2.2.2.2.1; omega)
  refine lv_aload_n hx hb dL_law_536 rfl (lv_at hl 1 rfl) ?_
  refine lv_aload_n hx hb dL_law_537 rfl (lv_at hl 0 rfl) ?_
  refine lv_iload hx hb dL_law_538 (lv_at hl 5 rfl) ?_
  refine lv_iconst (v := 1) hx hb dL_law_540 (by decide) ?_
  refine lv_iadd hx hb dL_law_541 ?_
  rw [show nI (4 * k) + 1 = nI (4 * k + 1) from nI_add _ _]
  refine va_sld hx hb hX hbl hbA hI.2.1 (vp_in_nI (show 4 * k + 1 < N from by omega) (by omega)) dL_law_542 ?_
  refine lv_aload_n hx hb dL_law_543 rfl (lv_at hl 3 rfl) ?_
  refine z_xi hI (vx_runSX (As := [.ref (P 0), .int (xs (nI (4 * k + 1)).toNatClampNeg), .ref po]) (rest := []) ⟨hx, hb, hml, hown, hts⟩ (c_L_speed l hnt D tc z0 _ κ g _ (P 0) hkx (xs (nI (4 * k + 1)).toNatClampNeg) po hko aC hC) (vx_cwSW 3 hts gL_law_L_speed rfl rfl rfl (by decide +kernel) ⟨Nat.le_of_ble_eq_true rfl, Nat.le_of_ble_eq_true rfl⟩) (z_pre (Xc := []) hK hE hI [] rfl rfl) rfl rfl hl.1 rfl (lv_room (Nat.le_of_ble_eq_true rfl)) dL_law_544 ⟨(show 60 + 20 * k + 37 * t + 1 ≤ 798071 from by omega), (show 400 + 120 * k + 162 * t + 6 ≤ 6701890 from by omega)⟩) (fun E ce q9 u H locs hw hI he1 he2 he3 => hw.elim) (fun v u H locs hw hI => ?_)
  obtain ⟨L1, κ1, g1⟩ := u
  have hI : zI D tc (zA [] [] s.heap.size) s.heap [] L1 κ1 g1 H locs := hI
  have hJ : zJ κ1 g1 z0 (P 0) pm rq t (k + 1) ∧ κ1 po = 29 ∧ κ1 pd = 30 := by
    rcases hw with ⟨_, r1, u1, v9, hp, hu⟩ | ⟨_, hp⟩
    · cases hu
      have hp9 : u1 = (L, κ, g) := by first | exact hp | exact hp.2 | exact hp.2.2 | exact hp.2.2.2
      cases hp9
      exact ⟨(hJ.up hko (by decide)).more, hko, hkd⟩
    · obtain ⟨_, hp⟩ := hp
      cases hp
      exact ⟨hJ.more, hko, hkd⟩
  obtain ⟨hJ, hko, hkd⟩ := hJ
  clear hw
  obtain ⟨L, rfl⟩ : ∃ x, x = L1 := ⟨_, rfl⟩
  obtain ⟨κ, rfl⟩ : ∃ x, x = κ1 := ⟨_, rfl⟩
  obtain ⟨g, rfl⟩ : ∃ x, x = g1 := ⟨_, rfl⟩
  refine lv_istore (lv' := [(6, .int v), (0, .ref b), (1, .ref (P 0)), (2, .ref pm), (3, .ref po), (4, .ref pd), (5, .int (nI (4 * k)))]) hx hb dL_law_547 hl (by decide) rfl (fun ls hl => ?_)
  refine lv_aload_n hx hb dL_law_549 rfl (lv_at hl 3 rfl) ?_
  refine lv_aload_n hx hb dL_law_550 rfl (lv_at hl 1 rfl) ?_
  refine lv_iload hx hb dL_law_551 (lv_at hl 6 rfl) ?_
  refine lv_iconst (v := 1) hx hb dL_law_553 (by decide) ?_
  refine lv_iadd hx hb dL_law_554 ?_
  rw [show nI (4 * k) + 1 = nI (4 * k + 1) from nI_add _ _]
  refine va_sld hx hb hX hbl hbA hI.2.1 (vp_in_nI (show 4 * k + 1 < N from by omega) (by omega)) dL_law_555 ?_
  obtain ⟨⟨⟨hkx, hkm, hkq⟩, hR, ⟨htM, htb⟩, ⟨aC, hkC, hC⟩, ⟨aT, hkT, hT⟩, ⟨co, hkO, hO⟩, ⟨sp, hkS, hS9⟩, lc, eC, nC, mC, cf9, lt, eT, nT, mT, tf, hMo⟩, -⟩ := id hJ
  refine z_ci hI (va_runV (As := [.int (xs (nI (4 * k + 1)).toNatClampNeg)]) (rest := []) ⟨hx, hb, hml, hown, hts⟩ (c_X11_speed l D tc z0 _ κ g _ pm hkm (xs (nI (4 * k + 1)).toNatClampNeg) lc eC nC mC cf9 lt eT nT mT tf hMo ) (cwV 1 hts gL_law_X11_speed rfl rfl rfl (by decide +kernel) ⟨Nat.le_of_ble_eq_true rfl, Nat.le_of_ble_eq_true rfl⟩) (z_preV (Xc := []) hK hE hI [] rfl rfl (z_recv hK hI hkm rfl rfl)) rfl rfl hl.1 rfl (lv_room (Nat.le_of_ble_eq_true rfl)) dL_law_556 ⟨(show 60 + 20 * k + 37 * t + 1 + 0 ≤ 798071 from by omega), (show 400 + 120 * k + 162 * t + 6 + 0 ≤ 6701890 from by omega)⟩) (fun w u H locs hw hI => ?_)
  obtain ⟨x9, rfl⟩ := hw
  have hJ := hJ.upM (j := 12) (v := .int x9) (by decide)
  have hI : zI D tc (zA [] [] s.heap.size) s.heap [] L κ (zup g pm 12 (.int x9)) H locs := hI
  generalize (zup g pm 12 (.int x9)) = g at hI hJ
  refine lv_istore (lv' := [(7, .int w), (6, .int v), (0, .ref b), (1, .ref (P 0)), (2, .ref pm), (3, .ref po), (4, .ref pd), (5, .int (nI (4 * k)))]) hx hb dL_law_559 hl (by decide) rfl (fun ls hl => ?_)
  refine lv_goto (tgt := 1364) hx hb dL_law_561 (by decide) ?_
  have hl := lv_sub hl [2, 3, 4, 5, 6, 7] (l' := [(0, .ref b), (1, .ref (P 0)), (2, .ref pm), (3, .ref po), (4, .ref pd), (5, .int (nI (4 * k)))]) rfl
  refine W.widen (k := 60 + 20 * (k + 1) + 37 * t) (n := 400 + 120 * (k + 1) + 162 * t) (by omega) (by omega) ?_
  refine W.base ?_
  exact hN s.drawn L κ g _ _ _ _ (Drawn.sameBut.refl _ _) hJ hko hkd hI hl

set_option maxHeartbeats 4000000 in
set_option maxRecDepth 100000 in
theorem k_wanted (l : Launch) (hnt : l.stackTraces = false) {p : Program} {e : Env} {s : State} {m : MethodId} {below : List Frame} {meth : Method} {c : Code} {H : Heap} {locs : List Loc} {Q : State → Prop} {D : va_G} {tc : Nat → ClassId} {z0 b N : Nat} {xs : Nat → Int32} {px pm po pd rq t k : Nat} {L : List Nat} {κ : Nat → Nat} {g : Nat → Nat → Value} {ls : Array Slot} (C : lwC p s m meth c b N xs D tc z0) (hk : 4 * k + 4 ≤ N) (hN8 : N ≤ 2048) (hJ : zJ κ g z0 px pm rq t k) (hko : κ po = 29) (hkd : κ pd = 30) (hI : zI D tc (zA [] [] s.heap.size) s.heap [] L κ g H locs) (hl : lv_has ls 9 [(0, .ref b), (1, .ref px), (2, .ref pm), (3, .ref po), (4, .ref pd), (5, .int (nI (4 * k)))]) (hN : lwN p l e s m below meth c b D tc z0 px pm po pd rq k Q) : W p l e room_1 s m #[Value.ref b] below meth c H locs (60 + 20 * k + 37 * t) (400 + 120 * k + 162 * t) Q (F0 m 564 ls []) := by
  obtain ⟨hx, hb, hml, hown, hts, hK, hE, hX, hbl⟩ := C
  have hbA : ¬ zA [] [] s.heap.size b := fun q => by rcases q with q | q | q; exact absurd q List.not_mem_nil; exact absurd q List.not_mem_nil; exact absurd hbl (Nat.not_lt.mpr q)
  have htb9 : t ≤ 9999 := hJ.1.2.2.1.2
  obtain ⟨⟨⟨hkx, hkm, hkq⟩, hR, ⟨htM, htb⟩, ⟨aC, hkC, hC⟩, ⟨aT, hkT, hT⟩, ⟨co, hkO, hO⟩, ⟨sp, hkS, hS9⟩, lc, eC, nC, mC, cf9, lt, eT, nT, mT, tf, hMo⟩, P, cf, bf, a9, q9, nc, t9, rfl, hSd⟩ := id hJ
  have hWa : zWa g aC 19998 := by rw [show aC = P 1 from Value.ref.inj (hC.symm.trans hSd.1.2.1.1)]; exact (hSd.1.wa hSd.2.2.2.2.2.1).mono2 (by have := hSd.2.2.2.2.1; omega)
  refine lv_aload_n hx hb dL_law_564 rfl (lv_at hl 1 rfl) ?_
  refine lv_aload_n hx hb dL_law_565 rfl (lv_at hl 0 rfl) ?_
  refine lv_iload hx hb dL_law_566 (lv_at hl 5 rfl) ?_
  refine lv_iconst (v := 1) hx hb dL_law_568 (by decide) ?_
  refine lv_iadd hx hb dL_law_569 ?_
  rw [show nI (4 * k) + 1 = nI (4 * k + 1) from nI_add _ _]
  refine va_sld hx hb hX hbl hbA hI.2.1 (vp_in_nI (show 4 * k + 1 < N from by omega) (by omega)) dL_law_570 ?_
  refine lv_aload_n hx hb dL_law_571 rfl (lv_at hl 3 rfl) ?_
  refine z_xi hI (vx_runSX (As := [.ref (P 0), .int (xs (nI (4 * k + 1)).toNatClampNeg), .ref po]) (rest := []) ⟨hx, hb, hml, hown, hts⟩ (c_L_wanted l hnt D tc z0 _ κ g _ (P 0) hkx (xs (nI (4 * k + 1)).toNatClampNeg) po hko aC hC) (vx_cwSW 3 hts gL_law_L_wanted rfl rfl rfl (by decide +kernel) ⟨Nat.le_of_ble_eq_true rfl, Nat.le_of_ble_eq_true rfl⟩) (z_pre (Xc := []) hK hE hI [] rfl rfl) rfl rfl hl.1 rfl (lv_room (Nat.le_of_ble_eq_true rfl)) dL_law_572 ⟨(show 60 + 20 * k + 37 * t + 1 ≤ 798071 from by omega), (show 400 + 120 * k + 162 * t + 6 ≤ 6701890 from by omega)⟩) (fun E ce q9 u H locs hw hI he1 he2 he3 => hw.elim) (fun v u H locs hw hI => ?_)
  obtain ⟨L1, κ1, g1⟩ := u
  have hI : zI D tc (zA [] [] s.heap.size) s.heap [] L1 κ1 g1 H locs := hI
  have hJ : zJ κ1 g1 z0 (P 0) pm rq t (k + 1) ∧ κ1 po = 29 ∧ κ1 pd = 30 := by
    rcases hw with ⟨_, r1, u1, v9, hp, hu⟩ | ⟨_, hp⟩
    · cases hu
      have hp9 : u1 = (L, κ, g) := by first | exact hp | exact hp.2 | exact hp.2.2 | exact hp.2.2.2
      cases hp9
      exact ⟨(hJ.up hko (by decide)).more, hko, hkd⟩
    · obtain ⟨_, hp⟩ := hp
      cases hp
      exact ⟨hJ.more, hko, hkd⟩
  obtain ⟨hJ, hko, hkd⟩ := hJ
  clear hw
  obtain ⟨L, rfl⟩ : ∃ x, x = L1 := ⟨_, rfl⟩
  obtain ⟨κ, rfl⟩ : ∃ x, x = κ1 := ⟨_, rfl⟩
  obtain ⟨g, rfl⟩ : ∃ x, x = g1 := ⟨_, rfl⟩
  refine lv_istore (lv' := [(6, .int v), (0, .ref b), (1, .ref (P 0)), (2, .ref pm), (3, .ref po), (4, .ref pd), (5, .int (nI (4 * k)))]) hx hb dL_law_575 hl (by decide) rfl (fun ls hl => ?_)
  refine lv_aload_n hx hb dL_law_577 rfl (lv_at hl 3 rfl) ?_
  refine lv_aload_n hx hb dL_law_578 rfl (lv_at hl 1 rfl) ?_
  refine lv_iload hx hb dL_law_579 (lv_at hl 6 rfl) ?_
  refine lv_iconst (v := 1) hx hb dL_law_581 (by decide) ?_
  refine lv_iadd hx hb dL_law_582 ?_
  rw [show nI (4 * k) + 1 = nI (4 * k + 1) from nI_add _ _]
  refine va_sld hx hb hX hbl hbA hI.2.1 (vp_in_nI (show 4 * k + 1 < N from by omega) (by omega)) dL_law_583 ?_
  obtain ⟨⟨⟨hkx, hkm, hkq⟩, hR, ⟨htM, htb⟩, ⟨aC, hkC, hC⟩, ⟨aT, hkT, hT⟩, ⟨co, hkO, hO⟩, ⟨sp, hkS, hS9⟩, lc, eC, nC, mC, cf9, lt, eT, nT, mT, tf, hMo⟩, -⟩ := id hJ
  refine z_ci hI (va_runV (As := [.int (xs (nI (4 * k + 1)).toNatClampNeg)]) (rest := []) ⟨hx, hb, hml, hown, hts⟩ (c_X11_wanted l D tc z0 _ κ g _ pm hkm (xs (nI (4 * k + 1)).toNatClampNeg) lc eC nC mC cf9 lt eT nT mT tf hMo ) (cwV 1 hts gL_law_X11_wanted rfl rfl rfl (by decide +kernel) ⟨Nat.le_of_ble_eq_true rfl, Nat.le_of_ble_eq_true rfl⟩) (z_preV (Xc := []) hK hE hI [] rfl rfl (z_recv hK hI hkm rfl rfl)) rfl rfl hl.1 rfl (lv_room (Nat.le_of_ble_eq_true rfl)) dL_law_584 ⟨(show 60 + 20 * k + 37 * t + 1 + 0 ≤ 798071 from by omega), (show 400 + 120 * k + 162 * t + 6 + 0 ≤ 6701890 from by omega)⟩) (fun w u H locs hw hI => ?_)
  obtain ⟨x9, rfl⟩ := hw
  have hJ := hJ.upM (j := 12) (v := .int x9) (by decide)
  have hI : zI D tc (zA [] [] s.heap.size) s.heap [] L κ (zup g pm 12 (.int x9)) H locs := hI
  generalize (zup g pm 12 (.int x9)) = g at hI hJ
  refine lv_istore (lv' := [(7, .int w), (6, .int v), (0, .ref b), (1, .ref (P 0)), (2, .ref pm), (3, .ref po), (4, .ref pd), (5, .int (nI (4 * k)))]) hx hb dL_law_587 hl (by decide) rfl (fun ls hl => ?_)
  refine lv_goto (tgt := 1364) hx hb dL_law_589 (by decide) ?_
  have hl := lv_sub hl [2, 3, 4, 5, 6, 7] (l' := [(0, .ref b), (1, .ref (P 0)), (2, .ref pm), (3, .ref po), (4, .ref pd), (5, .int (nI (4 * k)))]) rfl
  refine W.widen (k := 60 + 20 * (k + 1) + 37 * t) (n := 400 + 120 * (k + 1) + 162 * t) (by omega) (by omega) ?_
  refine W.base ?_
  exact hN s.drawn L κ g _ _ _ _ (Drawn.sameBut.refl _ _) hJ hko hkd hI hl

set_option maxHeartbeats 4000000 in
set_option maxRecDepth 100000 in
theorem k_clamp (l : Launch) (hnt : l.stackTraces = false) {p : Program} {e : Env} {s : State} {m : MethodId} {below : List Frame} {meth : Method} {c : Code} {H : Heap} {locs : List Loc} {Q : State → Prop} {D : va_G} {tc : Nat → ClassId} {z0 b N : Nat} {xs : Nat → Int32} {px pm po pd rq t k : Nat} {L : List Nat} {κ : Nat → Nat} {g : Nat → Nat → Value} {ls : Array Slot} (C : lwC p s m meth c b N xs D tc z0) (hk : 4 * k + 4 ≤ N) (hN8 : N ≤ 2048) (hJ : zJ κ g z0 px pm rq t k) (hko : κ po = 29) (hkd : κ pd = 30) (hI : zI D tc (zA [] [] s.heap.size) s.heap [] L κ g H locs) (hl : lv_has ls 9 [(0, .ref b), (1, .ref px), (2, .ref pm), (3, .ref po), (4, .ref pd), (5, .int (nI (4 * k)))]) (hN : lwN p l e s m below meth c b D tc z0 px pm po pd rq k Q) : W p l e room_1 s m #[Value.ref b] below meth c H locs (60 + 20 * k + 37 * t) (400 + 120 * k + 162 * t) Q (F0 m 592 ls []) := by
  obtain ⟨hx, hb, hml, hown, hts, hK, hE, hX, hbl⟩ := C
  have hbA : ¬ zA [] [] s.heap.size b := fun q => by rcases q with q | q | q; exact absurd q List.not_mem_nil; exact absurd q List.not_mem_nil; exact absurd hbl (Nat.not_lt.mpr q)
  have htb9 : t ≤ 9999 := hJ.1.2.2.1.2
  obtain ⟨⟨⟨hkx, hkm, hkq⟩, hR, ⟨htM, htb⟩, ⟨aC, hkC, hC⟩, ⟨aT, hkT, hT⟩, ⟨co, hkO, hO⟩, ⟨sp, hkS, hS9⟩, lc, eC, nC, mC, cf9, lt, eT, nT, mT, tf, hMo⟩, P, cf, bf, a9, q9, nc, t9, rfl, hSd⟩ := id hJ
  have hWa : zWa g aC 19998 := by rw [show aC = P 1 from Value.ref.inj (hC.symm.trans hSd.1.2.1.1)]; exact (hSd.1.wa hSd.2.2.2.2.2.1).mono2 (by have := hSd.2.2.2.2.1; omega)
  refine lv_aload_n hx hb dL_law_592 rfl (lv_at hl 1 rfl) ?_
  refine lv_aload_n hx hb dL_law_593 rfl (lv_at hl 0 rfl) ?_
  refine lv_iload hx hb dL_law_594 (lv_at hl 5 rfl) ?_
  refine lv_iconst (v := 1) hx hb dL_law_596 (by decide) ?_
  refine lv_iadd hx hb dL_law_597 ?_
  rw [show nI (4 * k) + 1 = nI (4 * k + 1) from nI_add _ _]
  refine va_sld hx hb hX hbl hbA hI.2.1 (vp_in_nI (show 4 * k + 1 < N from by omega) (by omega)) dL_law_598 ?_
  refine lv_aload_n hx hb dL_law_599 rfl (lv_at hl 3 rfl) ?_
  refine z_xi hI (vx_runSX (As := [.ref (P 0), .int (xs (nI (4 * k + 1)).toNatClampNeg), .ref po]) (rest := []) ⟨hx, hb, hml, hown, hts⟩ (c_L_clamp l hnt D tc z0 _ κ g _ (P 0) hkx (xs (nI (4 * k + 1)).toNatClampNeg) po hko aC hC) (vx_cwSW 3 hts gL_law_L_clamp rfl rfl rfl (by decide +kernel) ⟨Nat.le_of_ble_eq_true rfl, Nat.le_of_ble_eq_true rfl⟩) (z_pre (Xc := []) hK hE hI [] rfl rfl) rfl rfl hl.1 rfl (lv_room (Nat.le_of_ble_eq_true rfl)) dL_law_600 ⟨(show 60 + 20 * k + 37 * t + 1 ≤ 798071 from by omega), (show 400 + 120 * k + 162 * t + 6 ≤ 6701890 from by omega)⟩) (fun E ce q9 u H locs hw hI he1 he2 he3 => hw.elim) (fun v u H locs hw hI => ?_)
  obtain ⟨L1, κ1, g1⟩ := u
  have hI : zI D tc (zA [] [] s.heap.size) s.heap [] L1 κ1 g1 H locs := hI
  have hJ : zJ κ1 g1 z0 (P 0) pm rq t (k + 1) ∧ κ1 po = 29 ∧ κ1 pd = 30 := by
    rcases hw with ⟨_, r1, u1, v9, hp, hu⟩ | ⟨_, hp⟩
    · cases hu
      have hp9 : u1 = (L, κ, g) := by first | exact hp | exact hp.2 | exact hp.2.2 | exact hp.2.2.2
      cases hp9
      exact ⟨(hJ.up hko (by decide)).more, hko, hkd⟩
    · obtain ⟨_, hp⟩ := hp
      cases hp
      exact ⟨hJ.more, hko, hkd⟩
  obtain ⟨hJ, hko, hkd⟩ := hJ
  clear hw
  obtain ⟨L, rfl⟩ : ∃ x, x = L1 := ⟨_, rfl⟩
  obtain ⟨κ, rfl⟩ : ∃ x, x = κ1 := ⟨_, rfl⟩
  obtain ⟨g, rfl⟩ : ∃ x, x = g1 := ⟨_, rfl⟩
  refine lv_istore (lv' := [(6, .int v), (0, .ref b), (1, .ref (P 0)), (2, .ref pm), (3, .ref po), (4, .ref pd), (5, .int (nI (4 * k)))]) hx hb dL_law_603 hl (by decide) rfl (fun ls hl => ?_)
  refine lv_aload_n hx hb dL_law_605 rfl (lv_at hl 3 rfl) ?_
  refine lv_aload_n hx hb dL_law_606 rfl (lv_at hl 1 rfl) ?_
  refine lv_iload hx hb dL_law_607 (lv_at hl 6 rfl) ?_
  refine lv_iconst (v := 1) hx hb dL_law_609 (by decide) ?_
  refine lv_iadd hx hb dL_law_610 ?_
  rw [show nI (4 * k) + 1 = nI (4 * k + 1) from nI_add _ _]
  refine va_sld hx hb hX hbl hbA hI.2.1 (vp_in_nI (show 4 * k + 1 < N from by omega) (by omega)) dL_law_611 ?_
  obtain ⟨⟨⟨hkx, hkm, hkq⟩, hR, ⟨htM, htb⟩, ⟨aC, hkC, hC⟩, ⟨aT, hkT, hT⟩, ⟨co, hkO, hO⟩, ⟨sp, hkS, hS9⟩, lc, eC, nC, mC, cf9, lt, eT, nT, mT, tf, hMo⟩, -⟩ := id hJ
  refine z_ci hI (va_runV (As := [.int (xs (nI (4 * k + 1)).toNatClampNeg)]) (rest := []) ⟨hx, hb, hml, hown, hts⟩ (c_X11_clamp l D tc z0 _ κ g _ pm hkm (xs (nI (4 * k + 1)).toNatClampNeg) lc eC nC mC cf9 lt eT nT mT tf hMo ) (cwV 1 hts gL_law_X11_clamp rfl rfl rfl (by decide +kernel) ⟨Nat.le_of_ble_eq_true rfl, Nat.le_of_ble_eq_true rfl⟩) (z_preV (Xc := []) hK hE hI [] rfl rfl (z_recv hK hI hkm rfl rfl)) rfl rfl hl.1 rfl (lv_room (Nat.le_of_ble_eq_true rfl)) dL_law_612 ⟨(show 60 + 20 * k + 37 * t + 1 + 0 ≤ 798071 from by omega), (show 400 + 120 * k + 162 * t + 6 + 0 ≤ 6701890 from by omega)⟩) (fun w u H locs hw hI => ?_)
  obtain ⟨x9, rfl⟩ := hw
  have hJ := hJ.upM (j := 12) (v := .int x9) (by decide)
  have hI : zI D tc (zA [] [] s.heap.size) s.heap [] L κ (zup g pm 12 (.int x9)) H locs := hI
  generalize (zup g pm 12 (.int x9)) = g at hI hJ
  refine lv_istore (lv' := [(7, .int w), (6, .int v), (0, .ref b), (1, .ref (P 0)), (2, .ref pm), (3, .ref po), (4, .ref pd), (5, .int (nI (4 * k)))]) hx hb dL_law_615 hl (by decide) rfl (fun ls hl => ?_)
  refine lv_goto (tgt := 1364) hx hb dL_law_617 (by decide) ?_
  have hl := lv_sub hl [2, 3, 4, 5, 6, 7] (l' := [(0, .ref b), (1, .ref (P 0)), (2, .ref pm), (3, .ref po), (4, .ref pd), (5, .int (nI (4 * k)))]) rfl
  refine W.widen (k := 60 + 20 * (k + 1) + 37 * t) (n := 400 + 120 * (k + 1) + 162 * t) (by omega) (by omega) ?_
  refine W.base ?_
  exact hN s.drawn L κ g _ _ _ _ (Drawn.sameBut.refl _ _) hJ hko hkd hI hl

set_option maxHeartbeats 4000000 in
set_option maxRecDepth 100000 in
theorem k_sleep (l : Launch) (hnt : l.stackTraces = false) {p : Program} {e : Env} {s : State} {m : MethodId} {below : List Frame} {meth : Method} {c : Code} {H : Heap} {locs : List Loc} {Q : State → Prop} {D : va_G} {tc : Nat → ClassId} {z0 b N : Nat} {xs : Nat → Int32} {px pm po pd rq t k : Nat} {L : List Nat} {κ : Nat → Nat} {g : Nat → Nat → Value} {ls : Array Slot} (C : lwC p s m meth c b N xs D tc z0) (hk : 4 * k + 4 ≤ N) (hN8 : N ≤ 2048) (hJ : zJ κ g z0 px pm rq t k) (hko : κ po = 29) (hkd : κ pd = 30) (hI : zI D tc (zA [] [] s.heap.size) s.heap [] L κ g H locs) (hl : lv_has ls 9 [(0, .ref b), (1, .ref px), (2, .ref pm), (3, .ref po), (4, .ref pd), (5, .int (nI (4 * k)))]) (hN : lwN p l e s m below meth c b D tc z0 px pm po pd rq k Q) : W p l e room_1 s m #[Value.ref b] below meth c H locs (60 + 20 * k + 37 * t) (400 + 120 * k + 162 * t) Q (F0 m 620 ls []) := by
  obtain ⟨hx, hb, hml, hown, hts, hK, hE, hX, hbl⟩ := C
  have hbA : ¬ zA [] [] s.heap.size b := fun q => by rcases q with q | q | q; exact absurd q List.not_mem_nil; exact absurd q List.not_mem_nil; exact absurd hbl (Nat.not_lt.mpr q)
  have htb9 : t ≤ 9999 := hJ.1.2.2.1.2
  obtain ⟨⟨⟨hkx, hkm, hkq⟩, hR, ⟨htM, htb⟩, ⟨aC, hkC, hC⟩, ⟨aT, hkT, hT⟩, ⟨co, hkO, hO⟩, ⟨sp, hkS, hS9⟩, lc, eC, nC, mC, cf9, lt, eT, nT, mT, tf, hMo⟩, P, cf, bf, a9, q9, nc, t9, rfl, hSd⟩ := id hJ
  have hWa : zWa g aC 19998 := by rw [show aC = P 1 from Value.ref.inj (hC.symm.trans hSd.1.2.1.1)]; exact (hSd.1.wa hSd.2.2.2.2.2.1).mono2 (by have := hSd.2.2.2.2.1; omega)
  refine lv_aload_n hx hb dL_law_620 rfl (lv_at hl 1 rfl) ?_
  refine lv_aload_n hx hb dL_law_621 rfl (lv_at hl 0 rfl) ?_
  refine lv_iload hx hb dL_law_622 (lv_at hl 5 rfl) ?_
  refine lv_iconst (v := 1) hx hb dL_law_624 (by decide) ?_
  refine lv_iadd hx hb dL_law_625 ?_
  rw [show nI (4 * k) + 1 = nI (4 * k + 1) from nI_add _ _]
  refine va_sld hx hb hX hbl hbA hI.2.1 (vp_in_nI (show 4 * k + 1 < N from by omega) (by omega)) dL_law_626 ?_
  refine lv_aload_n hx hb dL_law_627 rfl (lv_at hl 3 rfl) ?_
  refine z_xi hI (vx_runSX (As := [.ref (P 0), .int (xs (nI (4 * k + 1)).toNatClampNeg), .ref po]) (rest := []) ⟨hx, hb, hml, hown, hts⟩ (c_L_sleep l hnt D tc z0 _ κ g _ (P 0) hkx (xs (nI (4 * k + 1)).toNatClampNeg) po hko aC hC) (vx_cwSW 3 hts gL_law_L_sleep rfl rfl rfl (by decide +kernel) ⟨Nat.le_of_ble_eq_true rfl, Nat.le_of_ble_eq_true rfl⟩) (z_pre (Xc := []) hK hE hI [] rfl rfl) rfl rfl hl.1 rfl (lv_room (Nat.le_of_ble_eq_true rfl)) dL_law_628 ⟨(show 60 + 20 * k + 37 * t + 1 ≤ 798071 from by omega), (show 400 + 120 * k + 162 * t + 6 ≤ 6701890 from by omega)⟩) (fun E ce q9 u H locs hw hI he1 he2 he3 => hw.elim) (fun v u H locs hw hI => ?_)
  obtain ⟨L1, κ1, g1⟩ := u
  have hI : zI D tc (zA [] [] s.heap.size) s.heap [] L1 κ1 g1 H locs := hI
  have hJ : zJ κ1 g1 z0 (P 0) pm rq t (k + 1) ∧ κ1 po = 29 ∧ κ1 pd = 30 := by
    rcases hw with ⟨_, r1, u1, v9, hp, hu⟩ | ⟨_, hp⟩
    · cases hu
      have hp9 : u1 = (L, κ, g) := by first | exact hp | exact hp.2 | exact hp.2.2 | exact hp.2.2.2
      cases hp9
      exact ⟨(hJ.up hko (by decide)).more, hko, hkd⟩
    · obtain ⟨_, hp⟩ := hp
      cases hp
      exact ⟨hJ.more, hko, hkd⟩
  obtain ⟨hJ, hko, hkd⟩ := hJ
  clear hw
  obtain ⟨L, rfl⟩ : ∃ x, x = L1 := ⟨_, rfl⟩
  obtain ⟨κ, rfl⟩ : ∃ x, x = κ1 := ⟨_, rfl⟩
  obtain ⟨g, rfl⟩ : ∃ x, x = g1 := ⟨_, rfl⟩
  refine lv_istore (lv' := [(6, .int v), (0, .ref b), (1, .ref (P 0)), (2, .ref pm), (3, .ref po), (4, .ref pd), (5, .int (nI (4 * k)))]) hx hb dL_law_631 hl (by decide) rfl (fun ls hl => ?_)
  refine lv_aload_n hx hb dL_law_633 rfl (lv_at hl 3 rfl) ?_
  refine lv_aload_n hx hb dL_law_634 rfl (lv_at hl 1 rfl) ?_
  refine lv_iload hx hb dL_law_635 (lv_at hl 6 rfl) ?_
  refine lv_iconst (v := 1) hx hb dL_law_637 (by decide) ?_
  refine lv_iadd hx hb dL_law_638 ?_
  rw [show nI (4 * k) + 1 = nI (4 * k + 1) from nI_add _ _]
  refine va_sld hx hb hX hbl hbA hI.2.1 (vp_in_nI (show 4 * k + 1 < N from by omega) (by omega)) dL_law_639 ?_
  obtain ⟨⟨⟨hkx, hkm, hkq⟩, hR, ⟨htM, htb⟩, ⟨aC, hkC, hC⟩, ⟨aT, hkT, hT⟩, ⟨co, hkO, hO⟩, ⟨sp, hkS, hS9⟩, lc, eC, nC, mC, cf9, lt, eT, nT, mT, tf, hMo⟩, -⟩ := id hJ
  refine z_ci hI (va_runV (As := [.int (xs (nI (4 * k + 1)).toNatClampNeg)]) (rest := []) ⟨hx, hb, hml, hown, hts⟩ (c_X11_sleep l D tc z0 _ κ g _ pm hkm (xs (nI (4 * k + 1)).toNatClampNeg) lc eC nC mC cf9 lt eT nT mT tf hMo ) (cwV 1 hts gL_law_X11_sleep rfl rfl rfl (by decide +kernel) ⟨Nat.le_of_ble_eq_true rfl, Nat.le_of_ble_eq_true rfl⟩) (z_preV (Xc := []) hK hE hI [] rfl rfl (z_recv hK hI hkm rfl rfl)) rfl rfl hl.1 rfl (lv_room (Nat.le_of_ble_eq_true rfl)) dL_law_640 ⟨(show 60 + 20 * k + 37 * t + 1 + 0 ≤ 798071 from by omega), (show 400 + 120 * k + 162 * t + 6 + 0 ≤ 6701890 from by omega)⟩) (fun w u H locs hw hI => ?_)
  obtain ⟨x9, rfl⟩ := hw
  have hJ := hJ.upM (j := 12) (v := .int x9) (by decide)
  have hI : zI D tc (zA [] [] s.heap.size) s.heap [] L κ (zup g pm 12 (.int x9)) H locs := hI
  generalize (zup g pm 12 (.int x9)) = g at hI hJ
  refine lv_istore (lv' := [(7, .int w), (6, .int v), (0, .ref b), (1, .ref (P 0)), (2, .ref pm), (3, .ref po), (4, .ref pd), (5, .int (nI (4 * k)))]) hx hb dL_law_643 hl (by decide) rfl (fun ls hl => ?_)
  refine lv_goto (tgt := 1364) hx hb dL_law_645 (by decide) ?_
  have hl := lv_sub hl [2, 3, 4, 5, 6, 7] (l' := [(0, .ref b), (1, .ref (P 0)), (2, .ref pm), (3, .ref po), (4, .ref pd), (5, .int (nI (4 * k)))]) rfl
  refine W.widen (k := 60 + 20 * (k + 1) + 37 * t) (n := 400 + 120 * (k + 1) + 162 * t) (by omega) (by omega) ?_
  refine W.base ?_
  exact hN s.drawn L κ g _ _ _ _ (Drawn.sameBut.refl _ _) hJ hko hkd hI hl

set_option maxHeartbeats 4000000 in
set_option maxRecDepth 100000 in
theorem k_isBusy (l : Launch) (hnt : l.stackTraces = false) {p : Program} {e : Env} {s : State} {m : MethodId} {below : List Frame} {meth : Method} {c : Code} {H : Heap} {locs : List Loc} {Q : State → Prop} {D : va_G} {tc : Nat → ClassId} {z0 b N : Nat} {xs : Nat → Int32} {px pm po pd rq t k : Nat} {L : List Nat} {κ : Nat → Nat} {g : Nat → Nat → Value} {ls : Array Slot} (C : lwC p s m meth c b N xs D tc z0) (hk : 4 * k + 4 ≤ N) (hN8 : N ≤ 2048) (hJ : zJ κ g z0 px pm rq t k) (hko : κ po = 29) (hkd : κ pd = 30) (hI : zI D tc (zA [] [] s.heap.size) s.heap [] L κ g H locs) (hl : lv_has ls 9 [(0, .ref b), (1, .ref px), (2, .ref pm), (3, .ref po), (4, .ref pd), (5, .int (nI (4 * k)))]) (hN : lwN p l e s m below meth c b D tc z0 px pm po pd rq k Q) : W p l e room_1 s m #[Value.ref b] below meth c H locs (60 + 20 * k + 37 * t) (400 + 120 * k + 162 * t) Q (F0 m 648 ls []) := by
  obtain ⟨hx, hb, hml, hown, hts, hK, hE, hX, hbl⟩ := C
  have hbA : ¬ zA [] [] s.heap.size b := fun q => by rcases q with q | q | q; exact absurd q List.not_mem_nil; exact absurd q List.not_mem_nil; exact absurd hbl (Nat.not_lt.mpr q)
  have htb9 : t ≤ 9999 := hJ.1.2.2.1.2
  obtain ⟨⟨⟨hkx, hkm, hkq⟩, hR, ⟨htM, htb⟩, ⟨aC, hkC, hC⟩, ⟨aT, hkT, hT⟩, ⟨co, hkO, hO⟩, ⟨sp, hkS, hS9⟩, lc, eC, nC, mC, cf9, lt, eT, nT, mT, tf, hMo⟩, P, cf, bf, a9, q9, nc, t9, rfl, hSd⟩ := id hJ
  have hWa : zWa g aC 19998 := by rw [show aC = P 1 from Value.ref.inj (hC.symm.trans hSd.1.2.1.1)]; exact (hSd.1.wa hSd.2.2.2.2.2.1).mono2 (by have := hSd.2.2.2.2.1; omega)
  refine lv_aload_n hx hb dL_law_648 rfl (lv_at hl 1 rfl) ?_
  refine lv_aload_n hx hb dL_law_649 rfl (lv_at hl 0 rfl) ?_
  refine lv_iload hx hb dL_law_650 (lv_at hl 5 rfl) ?_
  refine lv_iconst (v := 1) hx hb dL_law_652 (by decide) ?_
  refine lv_iadd hx hb dL_law_653 ?_
  rw [show nI (4 * k) + 1 = nI (4 * k + 1) from nI_add _ _]
  refine va_sld hx hb hX hbl hbA hI.2.1 (vp_in_nI (show 4 * k + 1 < N from by omega) (by omega)) dL_law_654 ?_
  refine lv_aload_n hx hb dL_law_655 rfl (lv_at hl 3 rfl) ?_
  refine z_xi hI (vx_runSX (As := [.ref (P 0), .int (xs (nI (4 * k + 1)).toNatClampNeg), .ref po]) (rest := []) ⟨hx, hb, hml, hown, hts⟩ (c_L_isBusy l hnt D tc z0 _ κ g _ (P 0) hkx (xs (nI (4 * k + 1)).toNatClampNeg) po hko aC hC) (vx_cwSW 3 hts gL_law_L_isBusy rfl rfl rfl (by decide +kernel) ⟨Nat.le_of_ble_eq_true rfl, Nat.le_of_ble_eq_true rfl⟩) (z_pre (Xc := []) hK hE hI [] rfl rfl) rfl rfl hl.1 rfl (lv_room (Nat.le_of_ble_eq_true rfl)) dL_law_656 ⟨(show 60 + 20 * k + 37 * t + 1 ≤ 798071 from by omega), (show 400 + 120 * k + 162 * t + 6 ≤ 6701890 from by omega)⟩) (fun E ce q9 u H locs hw hI he1 he2 he3 => hw.elim) (fun v u H locs hw hI => ?_)
  obtain ⟨L1, κ1, g1⟩ := u
  have hI : zI D tc (zA [] [] s.heap.size) s.heap [] L1 κ1 g1 H locs := hI
  have hJ : zJ κ1 g1 z0 (P 0) pm rq t (k + 1) ∧ κ1 po = 29 ∧ κ1 pd = 30 := by
    rcases hw with ⟨_, r1, u1, v9, hp, hu⟩ | ⟨_, hp⟩
    · cases hu
      have hp9 : u1 = (L, κ, g) := by first | exact hp | exact hp.2 | exact hp.2.2 | exact hp.2.2.2
      cases hp9
      exact ⟨(hJ.up hko (by decide)).more, hko, hkd⟩
    · obtain ⟨_, hp⟩ := hp
      cases hp
      exact ⟨hJ.more, hko, hkd⟩
  obtain ⟨hJ, hko, hkd⟩ := hJ
  clear hw
  obtain ⟨L, rfl⟩ : ∃ x, x = L1 := ⟨_, rfl⟩
  obtain ⟨κ, rfl⟩ : ∃ x, x = κ1 := ⟨_, rfl⟩
  obtain ⟨g, rfl⟩ : ∃ x, x = g1 := ⟨_, rfl⟩
  refine lv_istore (lv' := [(6, .int v), (0, .ref b), (1, .ref (P 0)), (2, .ref pm), (3, .ref po), (4, .ref pd), (5, .int (nI (4 * k)))]) hx hb dL_law_659 hl (by decide) rfl (fun ls hl => ?_)
  refine lv_aload_n hx hb dL_law_661 rfl (lv_at hl 3 rfl) ?_
  refine lv_aload_n hx hb dL_law_662 rfl (lv_at hl 1 rfl) ?_
  refine lv_iload hx hb dL_law_663 (lv_at hl 6 rfl) ?_
  refine lv_iconst (v := 1) hx hb dL_law_665 (by decide) ?_
  refine lv_iadd hx hb dL_law_666 ?_
  rw [show nI (4 * k) + 1 = nI (4 * k + 1) from nI_add _ _]
  refine va_sld hx hb hX hbl hbA hI.2.1 (vp_in_nI (show 4 * k + 1 < N from by omega) (by omega)) dL_law_667 ?_
  obtain ⟨⟨⟨hkx, hkm, hkq⟩, hR, ⟨htM, htb⟩, ⟨aC, hkC, hC⟩, ⟨aT, hkT, hT⟩, ⟨co, hkO, hO⟩, ⟨sp, hkS, hS9⟩, lc, eC, nC, mC, cf9, lt, eT, nT, mT, tf, hMo⟩, -⟩ := id hJ
  refine z_ci hI (va_runV (As := [.int (xs (nI (4 * k + 1)).toNatClampNeg)]) (rest := []) ⟨hx, hb, hml, hown, hts⟩ (c_X11_isBusy l D tc z0 _ κ g _ pm hkm (xs (nI (4 * k + 1)).toNatClampNeg) lc eC nC mC cf9 lt eT nT mT tf hMo ) (cwV 1 hts gL_law_X11_isBusy rfl rfl rfl (by decide +kernel) ⟨Nat.le_of_ble_eq_true rfl, Nat.le_of_ble_eq_true rfl⟩) (z_preV (Xc := []) hK hE hI [] rfl rfl (z_recv hK hI hkm rfl rfl)) rfl rfl hl.1 rfl (lv_room (Nat.le_of_ble_eq_true rfl)) dL_law_668 ⟨(show 60 + 20 * k + 37 * t + 1 + 1 ≤ 798071 from by omega), (show 400 + 120 * k + 162 * t + 6 + 4 ≤ 6701890 from by omega)⟩) (fun w u H locs hw hI => ?_)
  obtain ⟨x9, rfl⟩ := hw
  have hJ := hJ.upM (j := 12) (v := .int x9) (by decide)
  have hI : zI D tc (zA [] [] s.heap.size) s.heap [] L κ (zup g pm 12 (.int x9)) H locs := hI
  generalize (zup g pm 12 (.int x9)) = g at hI hJ
  refine lv_istore (lv' := [(7, .int w), (6, .int v), (0, .ref b), (1, .ref (P 0)), (2, .ref pm), (3, .ref po), (4, .ref pd), (5, .int (nI (4 * k)))]) hx hb dL_law_671 hl (by decide) rfl (fun ls hl => ?_)
  refine lv_goto (tgt := 1364) hx hb dL_law_673 (by decide) ?_
  have hl := lv_sub hl [2, 3, 4, 5, 6, 7] (l' := [(0, .ref b), (1, .ref (P 0)), (2, .ref pm), (3, .ref po), (4, .ref pd), (5, .int (nI (4 * k)))]) rfl
  refine W.widen (k := 60 + 20 * (k + 1) + 37 * t) (n := 400 + 120 * (k + 1) + 162 * t) (by omega) (by omega) ?_
  refine W.base ?_
  exact hN s.drawn L κ g _ _ _ _ (Drawn.sameBut.refl _ _) hJ hko hkd hI hl

set_option maxHeartbeats 4000000 in
set_option maxRecDepth 100000 in
theorem k_need (l : Launch) (hnt : l.stackTraces = false) {p : Program} {e : Env} {s : State} {m : MethodId} {below : List Frame} {meth : Method} {c : Code} {H : Heap} {locs : List Loc} {Q : State → Prop} {D : va_G} {tc : Nat → ClassId} {z0 b N : Nat} {xs : Nat → Int32} {px pm po pd rq t k : Nat} {L : List Nat} {κ : Nat → Nat} {g : Nat → Nat → Value} {ls : Array Slot} (C : lwC p s m meth c b N xs D tc z0) (hk : 4 * k + 4 ≤ N) (hN8 : N ≤ 2048) (hJ : zJ κ g z0 px pm rq t k) (hko : κ po = 29) (hkd : κ pd = 30) (hI : zI D tc (zA [] [] s.heap.size) s.heap [] L κ g H locs) (hl : lv_has ls 9 [(0, .ref b), (1, .ref px), (2, .ref pm), (3, .ref po), (4, .ref pd), (5, .int (nI (4 * k)))]) (hN : lwN p l e s m below meth c b D tc z0 px pm po pd rq k Q) : W p l e room_1 s m #[Value.ref b] below meth c H locs (60 + 20 * k + 37 * t) (400 + 120 * k + 162 * t) Q (F0 m 676 ls []) := by
  obtain ⟨hx, hb, hml, hown, hts, hK, hE, hX, hbl⟩ := C
  have hbA : ¬ zA [] [] s.heap.size b := fun q => by rcases q with q | q | q; exact absurd q List.not_mem_nil; exact absurd q List.not_mem_nil; exact absurd hbl (Nat.not_lt.mpr q)
  have htb9 : t ≤ 9999 := hJ.1.2.2.1.2
  obtain ⟨⟨⟨hkx, hkm, hkq⟩, hR, ⟨htM, htb⟩, ⟨aC, hkC, hC⟩, ⟨aT, hkT, hT⟩, ⟨co, hkO, hO⟩, ⟨sp, hkS, hS9⟩, lc, eC, nC, mC, cf9, lt, eT, nT, mT, tf, hMo⟩, P, cf, bf, a9, q9, nc, t9, rfl, hSd⟩ := id hJ
  have hWa : zWa g aC 19998 := by rw [show aC = P 1 from Value.ref.inj (hC.symm.trans hSd.1.2.1.1)]; exact (hSd.1.wa hSd.2.2.2.2.2.1).mono2 (by have := hSd.2.2.2.2.1; omega)
  refine lv_aload_n hx hb dL_law_676 rfl (lv_at hl 1 rfl) ?_
  refine lv_aload_n hx hb dL_law_677 rfl (lv_at hl 0 rfl) ?_
  refine lv_iload hx hb dL_law_678 (lv_at hl 5 rfl) ?_
  refine lv_iconst (v := 1) hx hb dL_law_680 (by decide) ?_
  refine lv_iadd hx hb dL_law_681 ?_
  rw [show nI (4 * k) + 1 = nI (4 * k + 1) from nI_add _ _]
  refine va_sld hx hb hX hbl hbA hI.2.1 (vp_in_nI (show 4 * k + 1 < N from by omega) (by omega)) dL_law_682 ?_
  refine lv_aload_n hx hb dL_law_683 rfl (lv_at hl 0 rfl) ?_
  refine lv_iload hx hb dL_law_684 (lv_at hl 5 rfl) ?_
  refine lv_iconst (v := 2) hx hb dL_law_686 (by decide) ?_
  refine lv_iadd hx hb dL_law_687 ?_
  rw [show nI (4 * k) + 2 = nI (4 * k + 2) from nI_add _ _]
  refine va_sld hx hb hX hbl hbA hI.2.1 (vp_in_nI (show 4 * k + 2 < N from by omega) (by omega)) dL_law_688 ?_
  refine lv_aload_n hx hb dL_law_689 rfl (lv_at hl 3 rfl) ?_
  refine z_xi hI (vx_runSX (As := [.ref (P 0), .int (xs (nI (4 * k + 1)).toNatClampNeg), .int (xs (nI (4 * k + 2)).toNatClampNeg), .ref po]) (rest := []) ⟨hx, hb, hml, hown, hts⟩ (c_L_need l hnt D tc z0 _ κ g _ (P 0) hkx (xs (nI (4 * k + 1)).toNatClampNeg) (xs (nI (4 * k + 2)).toNatClampNeg) po hko aC hC hWa) (vx_cwSW 4 hts gL_law_L_need rfl rfl rfl (by decide +kernel) ⟨Nat.le_of_ble_eq_true rfl, Nat.le_of_ble_eq_true rfl⟩) (z_pre (Xc := []) hK hE hI [] rfl rfl) rfl rfl hl.1 rfl (lv_room (Nat.le_of_ble_eq_true rfl)) dL_law_690 ⟨(show 60 + 20 * k + 37 * t + 2 ≤ 798071 from by omega), (show 400 + 120 * k + 162 * t + 12 ≤ 6701890 from by omega)⟩) (fun E ce q9 u H locs hw hI he1 he2 he3 => hw.elim) (fun v u H locs hw hI => ?_)
  obtain ⟨L1, κ1, g1⟩ := u
  have hI : zI D tc (zA [] [] s.heap.size) s.heap [] L1 κ1 g1 H locs := hI
  have hJ : zJ κ1 g1 z0 (P 0) pm rq t (k + 1) ∧ κ1 po = 29 ∧ κ1 pd = 30 := by
    rcases hw with ⟨_, r1, u1, v9, hp, hu⟩ | ⟨_, hp⟩ | ⟨_, hp⟩
    · cases hu
      have hp9 : u1 = (L, κ, g) := by first | exact hp | exact hp.2 | exact hp.2.2 | exact hp.2.2.2
      cases hp9
      exact ⟨(hJ.up hko (by decide)).more, hko, hkd⟩
    · obtain ⟨_, hp⟩ := hp
      cases hp
      exact ⟨hJ.more, hko, hkd⟩
    · obtain ⟨_, hp⟩ := hp
      cases hp
      exact ⟨hJ.more, hko, hkd⟩
  obtain ⟨hJ, hko, hkd⟩ := hJ
  clear hw
  obtain ⟨L, rfl⟩ : ∃ x, x = L1 := ⟨_, rfl⟩
  obtain ⟨κ, rfl⟩ : ∃ x, x = κ1 := ⟨_, rfl⟩
  obtain ⟨g, rfl⟩ : ∃ x, x = g1 := ⟨_, rfl⟩
  refine lv_istore (lv' := [(6, .int v), (0, .ref b), (1, .ref (P 0)), (2, .ref pm), (3, .ref po), (4, .ref pd), (5, .int (nI (4 * k)))]) hx hb dL_law_693 hl (by decide) rfl (fun ls hl => ?_)
  refine lv_aload_n hx hb dL_law_695 rfl (lv_at hl 3 rfl) ?_
  refine lv_aload_n hx hb dL_law_696 rfl (lv_at hl 1 rfl) ?_
  refine lv_iload hx hb dL_law_697 (lv_at hl 6 rfl) ?_
  refine lv_iconst (v := 1) hx hb dL_law_699 (by decide) ?_
  refine lv_iadd hx hb dL_law_700 ?_
  rw [show nI (4 * k) + 1 = nI (4 * k + 1) from nI_add _ _]
  refine va_sld hx hb hX hbl hbA hI.2.1 (vp_in_nI (show 4 * k + 1 < N from by omega) (by omega)) dL_law_701 ?_
  refine lv_aload_n hx hb dL_law_702 rfl (lv_at hl 1 rfl) ?_
  refine lv_iload hx hb dL_law_703 (lv_at hl 6 rfl) ?_
  refine lv_iconst (v := 2) hx hb dL_law_705 (by decide) ?_
  refine lv_iadd hx hb dL_law_706 ?_
  rw [show nI (4 * k) + 2 = nI (4 * k + 2) from nI_add _ _]
  refine va_sld hx hb hX hbl hbA hI.2.1 (vp_in_nI (show 4 * k + 2 < N from by omega) (by omega)) dL_law_707 ?_
  obtain ⟨⟨⟨hkx, hkm, hkq⟩, hR, ⟨htM, htb⟩, ⟨aC, hkC, hC⟩, ⟨aT, hkT, hT⟩, ⟨co, hkO, hO⟩, ⟨sp, hkS, hS9⟩, lc, eC, nC, mC, cf9, lt, eT, nT, mT, tf, hMo⟩, -⟩ := id hJ
  refine z_ci hI (va_runV (As := [.int (xs (nI (4 * k + 1)).toNatClampNeg), .int (xs (nI (4 * k + 2)).toNatClampNeg)]) (rest := []) ⟨hx, hb, hml, hown, hts⟩ (c_X11_need l D tc z0 _ κ g _ pm hkm (xs (nI (4 * k + 1)).toNatClampNeg) (xs (nI (4 * k + 2)).toNatClampNeg) lc eC nC mC cf9 lt eT nT mT tf hMo ) (cwV 2 hts gL_law_X11_need rfl rfl rfl (by decide +kernel) ⟨Nat.le_of_ble_eq_true rfl, Nat.le_of_ble_eq_true rfl⟩) (z_preV (Xc := []) hK hE hI [] rfl rfl (z_recv hK hI hkm rfl rfl)) rfl rfl hl.1 rfl (lv_room (Nat.le_of_ble_eq_true rfl)) dL_law_708 ⟨(show 60 + 20 * k + 37 * t + 2 + 0 ≤ 798071 from by omega), (show 400 + 120 * k + 162 * t + 12 + 0 ≤ 6701890 from by omega)⟩) (fun w u H locs hw hI => ?_)
  obtain ⟨x9, rfl⟩ := hw
  have hJ := hJ.upM (j := 12) (v := .int x9) (by decide)
  have hI : zI D tc (zA [] [] s.heap.size) s.heap [] L κ (zup g pm 12 (.int x9)) H locs := hI
  generalize (zup g pm 12 (.int x9)) = g at hI hJ
  refine lv_istore (lv' := [(7, .int w), (6, .int v), (0, .ref b), (1, .ref (P 0)), (2, .ref pm), (3, .ref po), (4, .ref pd), (5, .int (nI (4 * k)))]) hx hb dL_law_711 hl (by decide) rfl (fun ls hl => ?_)
  refine lv_goto (tgt := 1364) hx hb dL_law_713 (by decide) ?_
  have hl := lv_sub hl [2, 3, 4, 5, 6, 7] (l' := [(0, .ref b), (1, .ref (P 0)), (2, .ref pm), (3, .ref po), (4, .ref pd), (5, .int (nI (4 * k)))]) rfl
  refine W.widen (k := 60 + 20 * (k + 1) + 37 * t) (n := 400 + 120 * (k + 1) + 162 * t) (by omega) (by omega) ?_
  refine W.base ?_
  exact hN s.drawn L κ g _ _ _ _ (Drawn.sameBut.refl _ _) hJ hko hkd hI hl

set_option maxHeartbeats 4000000 in
set_option maxRecDepth 100000 in
theorem k_volts (l : Launch) (hnt : l.stackTraces = false) {p : Program} {e : Env} {s : State} {m : MethodId} {below : List Frame} {meth : Method} {c : Code} {H : Heap} {locs : List Loc} {Q : State → Prop} {D : va_G} {tc : Nat → ClassId} {z0 b N : Nat} {xs : Nat → Int32} {px pm po pd rq t k : Nat} {L : List Nat} {κ : Nat → Nat} {g : Nat → Nat → Value} {ls : Array Slot} (C : lwC p s m meth c b N xs D tc z0) (hk : 4 * k + 4 ≤ N) (hN8 : N ≤ 2048) (hJ : zJ κ g z0 px pm rq t k) (hko : κ po = 29) (hkd : κ pd = 30) (hI : zI D tc (zA [] [] s.heap.size) s.heap [] L κ g H locs) (hl : lv_has ls 9 [(0, .ref b), (1, .ref px), (2, .ref pm), (3, .ref po), (4, .ref pd), (5, .int (nI (4 * k)))]) (hN : lwN p l e s m below meth c b D tc z0 px pm po pd rq k Q) : W p l e room_1 s m #[Value.ref b] below meth c H locs (60 + 20 * k + 37 * t) (400 + 120 * k + 162 * t) Q (F0 m 716 ls []) := by
  obtain ⟨hx, hb, hml, hown, hts, hK, hE, hX, hbl⟩ := C
  have hbA : ¬ zA [] [] s.heap.size b := fun q => by rcases q with q | q | q; exact absurd q List.not_mem_nil; exact absurd q List.not_mem_nil; exact absurd hbl (Nat.not_lt.mpr q)
  have htb9 : t ≤ 9999 := hJ.1.2.2.1.2
  obtain ⟨⟨⟨hkx, hkm, hkq⟩, hR, ⟨htM, htb⟩, ⟨aC, hkC, hC⟩, ⟨aT, hkT, hT⟩, ⟨co, hkO, hO⟩, ⟨sp, hkS, hS9⟩, lc, eC, nC, mC, cf9, lt, eT, nT, mT, tf, hMo⟩, P, cf, bf, a9, q9, nc, t9, rfl, hSd⟩ := id hJ
  have hWa : zWa g aC 19998 := by rw [show aC = P 1 from Value.ref.inj (hC.symm.trans hSd.1.2.1.1)]; exact (hSd.1.wa hSd.2.2.2.2.2.1).mono2 (by have := hSd.2.2.2.2.1; omega)
  refine lv_aload_n hx hb dL_law_716 rfl (lv_at hl 1 rfl) ?_
  refine lv_aload_n hx hb dL_law_717 rfl (lv_at hl 0 rfl) ?_
  refine lv_iload hx hb dL_law_718 (lv_at hl 5 rfl) ?_
  refine lv_iconst (v := 1) hx hb dL_law_720 (by decide) ?_
  refine lv_iadd hx hb dL_law_721 ?_
  rw [show nI (4 * k) + 1 = nI (4 * k + 1) from nI_add _ _]
  refine va_sld hx hb hX hbl hbA hI.2.1 (vp_in_nI (show 4 * k + 1 < N from by omega) (by omega)) dL_law_722 ?_
  refine lv_aload_n hx hb dL_law_723 rfl (lv_at hl 3 rfl) ?_
  refine z_xi hI (vx_runSX (As := [.ref (P 0), .int (xs (nI (4 * k + 1)).toNatClampNeg), .ref po]) (rest := []) ⟨hx, hb, hml, hown, hts⟩ (c_L_volts l hnt D tc z0 _ κ g _ (P 0) hkx (xs (nI (4 * k + 1)).toNatClampNeg) po hko ) (vx_cwSW 3 hts gL_law_L_volts rfl rfl rfl (by decide +kernel) ⟨Nat.le_of_ble_eq_true rfl, Nat.le_of_ble_eq_true rfl⟩) (z_pre (Xc := []) hK hE hI [] rfl rfl) rfl rfl hl.1 rfl (lv_room (Nat.le_of_ble_eq_true rfl)) dL_law_724 ⟨(show 60 + 20 * k + 37 * t + 1 ≤ 798071 from by omega), (show 400 + 120 * k + 162 * t + 6 ≤ 6701890 from by omega)⟩) (fun E ce q9 u H locs hw hI he1 he2 he3 => hw.elim) (fun v u H locs hw hI => ?_)
  obtain ⟨L1, κ1, g1⟩ := u
  have hI : zI D tc (zA [] [] s.heap.size) s.heap [] L1 κ1 g1 H locs := hI
  have hJ : zJ κ1 g1 z0 (P 0) pm rq t (k + 1) ∧ κ1 po = 29 ∧ κ1 pd = 30 := by
    rcases hw with ⟨_, r1, u1, v9, hp, hu⟩ | ⟨_, hp⟩
    · cases hu
      have hp9 : u1 = (L, κ, g) := by first | exact hp | exact hp.2 | exact hp.2.2 | exact hp.2.2.2
      cases hp9
      exact ⟨(hJ.up hko (by decide)).more, hko, hkd⟩
    · obtain ⟨_, hp⟩ := hp
      cases hp
      exact ⟨hJ.more, hko, hkd⟩
  obtain ⟨hJ, hko, hkd⟩ := hJ
  clear hw
  obtain ⟨L, rfl⟩ : ∃ x, x = L1 := ⟨_, rfl⟩
  obtain ⟨κ, rfl⟩ : ∃ x, x = κ1 := ⟨_, rfl⟩
  obtain ⟨g, rfl⟩ : ∃ x, x = g1 := ⟨_, rfl⟩
  refine lv_istore (lv' := [(6, .int v), (0, .ref b), (1, .ref (P 0)), (2, .ref pm), (3, .ref po), (4, .ref pd), (5, .int (nI (4 * k)))]) hx hb dL_law_727 hl (by decide) rfl (fun ls hl => ?_)
  refine lv_aload_n hx hb dL_law_729 rfl (lv_at hl 3 rfl) ?_
  refine lv_aload_n hx hb dL_law_730 rfl (lv_at hl 1 rfl) ?_
  refine lv_iload hx hb dL_law_731 (lv_at hl 6 rfl) ?_
  refine lv_iconst (v := 1) hx hb dL_law_733 (by decide) ?_
  refine lv_iadd hx hb dL_law_734 ?_
  rw [show nI (4 * k) + 1 = nI (4 * k + 1) from nI_add _ _]
  refine va_sld hx hb hX hbl hbA hI.2.1 (vp_in_nI (show 4 * k + 1 < N from by omega) (by omega)) dL_law_735 ?_
  obtain ⟨⟨⟨hkx, hkm, hkq⟩, hR, ⟨htM, htb⟩, ⟨aC, hkC, hC⟩, ⟨aT, hkT, hT⟩, ⟨co, hkO, hO⟩, ⟨sp, hkS, hS9⟩, lc, eC, nC, mC, cf9, lt, eT, nT, mT, tf, hMo⟩, -⟩ := id hJ
  refine z_ci hI (va_runV (As := [.int (xs (nI (4 * k + 1)).toNatClampNeg)]) (rest := []) ⟨hx, hb, hml, hown, hts⟩ (c_X11_volts l D tc z0 _ κ g _ pm hkm (xs (nI (4 * k + 1)).toNatClampNeg)  ) (cwV 1 hts gL_law_X11_volts rfl rfl rfl (by decide +kernel) ⟨Nat.le_of_ble_eq_true rfl, Nat.le_of_ble_eq_true rfl⟩) (z_preV (Xc := []) hK hE hI [] rfl rfl (z_recv hK hI hkm rfl rfl)) rfl rfl hl.1 rfl (lv_room (Nat.le_of_ble_eq_true rfl)) dL_law_736 ⟨(show 60 + 20 * k + 37 * t + 1 + 0 ≤ 798071 from by omega), (show 400 + 120 * k + 162 * t + 6 + 0 ≤ 6701890 from by omega)⟩) (fun w u H locs hw hI => ?_)
  obtain ⟨x9, rfl⟩ := hw
  have hJ := hJ.upM (j := 12) (v := .int x9) (by decide)
  have hI : zI D tc (zA [] [] s.heap.size) s.heap [] L κ (zup g pm 12 (.int x9)) H locs := hI
  generalize (zup g pm 12 (.int x9)) = g at hI hJ
  refine lv_istore (lv' := [(7, .int w), (6, .int v), (0, .ref b), (1, .ref (P 0)), (2, .ref pm), (3, .ref po), (4, .ref pd), (5, .int (nI (4 * k)))]) hx hb dL_law_739 hl (by decide) rfl (fun ls hl => ?_)
  refine lv_goto (tgt := 1364) hx hb dL_law_741 (by decide) ?_
  have hl := lv_sub hl [2, 3, 4, 5, 6, 7] (l' := [(0, .ref b), (1, .ref (P 0)), (2, .ref pm), (3, .ref po), (4, .ref pd), (5, .int (nI (4 * k)))]) rfl
  refine W.widen (k := 60 + 20 * (k + 1) + 37 * t) (n := 400 + 120 * (k + 1) + 162 * t) (by omega) (by omega) ?_
  refine W.base ?_
  exact hN s.drawn L κ g _ _ _ _ (Drawn.sameBut.refl _ _) hJ hko hkd hI hl

set_option maxHeartbeats 4000000 in
set_option maxRecDepth 100000 in
theorem k_heat (l : Launch) (hnt : l.stackTraces = false) {p : Program} {e : Env} {s : State} {m : MethodId} {below : List Frame} {meth : Method} {c : Code} {H : Heap} {locs : List Loc} {Q : State → Prop} {D : va_G} {tc : Nat → ClassId} {z0 b N : Nat} {xs : Nat → Int32} {px pm po pd rq t k : Nat} {L : List Nat} {κ : Nat → Nat} {g : Nat → Nat → Value} {ls : Array Slot} (C : lwC p s m meth c b N xs D tc z0) (hk : 4 * k + 4 ≤ N) (hN8 : N ≤ 2048) (hJ : zJ κ g z0 px pm rq t k) (hko : κ po = 29) (hkd : κ pd = 30) (hI : zI D tc (zA [] [] s.heap.size) s.heap [] L κ g H locs) (hl : lv_has ls 9 [(0, .ref b), (1, .ref px), (2, .ref pm), (3, .ref po), (4, .ref pd), (5, .int (nI (4 * k)))]) (hN : lwN p l e s m below meth c b D tc z0 px pm po pd rq k Q) : W p l e room_1 s m #[Value.ref b] below meth c H locs (60 + 20 * k + 37 * t) (400 + 120 * k + 162 * t) Q (F0 m 744 ls []) := by
  obtain ⟨hx, hb, hml, hown, hts, hK, hE, hX, hbl⟩ := C
  have hbA : ¬ zA [] [] s.heap.size b := fun q => by rcases q with q | q | q; exact absurd q List.not_mem_nil; exact absurd q List.not_mem_nil; exact absurd hbl (Nat.not_lt.mpr q)
  have htb9 : t ≤ 9999 := hJ.1.2.2.1.2
  obtain ⟨⟨⟨hkx, hkm, hkq⟩, hR, ⟨htM, htb⟩, ⟨aC, hkC, hC⟩, ⟨aT, hkT, hT⟩, ⟨co, hkO, hO⟩, ⟨sp, hkS, hS9⟩, lc, eC, nC, mC, cf9, lt, eT, nT, mT, tf, hMo⟩, P, cf, bf, a9, q9, nc, t9, rfl, hSd⟩ := id hJ
  have hWa : zWa g aC 19998 := by rw [show aC = P 1 from Value.ref.inj (hC.symm.trans hSd.1.2.1.1)]; exact (hSd.1.wa hSd.2.2.2.2.2.1).mono2 (by have := hSd.2.2.2.2.1; omega)
  refine lv_aload_n hx hb dL_law_744 rfl (lv_at hl 1 rfl) ?_
  refine lv_aload_n hx hb dL_law_745 rfl (lv_at hl 0 rfl) ?_
  refine lv_iload hx hb dL_law_746 (lv_at hl 5 rfl) ?_
  refine lv_iconst (v := 1) hx hb dL_law_748 (by decide) ?_
  refine lv_iadd hx hb dL_law_749 ?_
  rw [show nI (4 * k) + 1 = nI (4 * k + 1) from nI_add _ _]
  refine va_sld hx hb hX hbl hbA hI.2.1 (vp_in_nI (show 4 * k + 1 < N from by omega) (by omega)) dL_law_750 ?_
  refine lv_aload_n hx hb dL_law_751 rfl (lv_at hl 3 rfl) ?_
  refine z_xi hI (vx_runSX (As := [.ref (P 0), .int (xs (nI (4 * k + 1)).toNatClampNeg), .ref po]) (rest := []) ⟨hx, hb, hml, hown, hts⟩ (c_L_heat l hnt D tc z0 _ κ g _ (P 0) hkx (xs (nI (4 * k + 1)).toNatClampNeg) po hko aC hC) (vx_cwSW 3 hts gL_law_L_heat rfl rfl rfl (by decide +kernel) ⟨Nat.le_of_ble_eq_true rfl, Nat.le_of_ble_eq_true rfl⟩) (z_pre (Xc := []) hK hE hI [] rfl rfl) rfl rfl hl.1 rfl (lv_room (Nat.le_of_ble_eq_true rfl)) dL_law_752 ⟨(show 60 + 20 * k + 37 * t + 1 ≤ 798071 from by omega), (show 400 + 120 * k + 162 * t + 6 ≤ 6701890 from by omega)⟩) (fun E ce q9 u H locs hw hI he1 he2 he3 => hw.elim) (fun v u H locs hw hI => ?_)
  obtain ⟨L1, κ1, g1⟩ := u
  have hI : zI D tc (zA [] [] s.heap.size) s.heap [] L1 κ1 g1 H locs := hI
  have hJ : zJ κ1 g1 z0 (P 0) pm rq t (k + 1) ∧ κ1 po = 29 ∧ κ1 pd = 30 := by
    rcases hw with ⟨_, r1, u1, v9, hp, hu⟩ | ⟨_, hp⟩
    · cases hu
      have hp9 : u1 = (L, κ, g) := by first | exact hp | exact hp.2 | exact hp.2.2 | exact hp.2.2.2
      cases hp9
      exact ⟨(hJ.up hko (by decide)).more, hko, hkd⟩
    · obtain ⟨_, hp⟩ := hp
      cases hp
      exact ⟨hJ.more, hko, hkd⟩
  obtain ⟨hJ, hko, hkd⟩ := hJ
  clear hw
  obtain ⟨L, rfl⟩ : ∃ x, x = L1 := ⟨_, rfl⟩
  obtain ⟨κ, rfl⟩ : ∃ x, x = κ1 := ⟨_, rfl⟩
  obtain ⟨g, rfl⟩ : ∃ x, x = g1 := ⟨_, rfl⟩
  refine lv_istore (lv' := [(6, .int v), (0, .ref b), (1, .ref (P 0)), (2, .ref pm), (3, .ref po), (4, .ref pd), (5, .int (nI (4 * k)))]) hx hb dL_law_755 hl (by decide) rfl (fun ls hl => ?_)
  refine lv_aload_n hx hb dL_law_757 rfl (lv_at hl 3 rfl) ?_
  refine lv_aload_n hx hb dL_law_758 rfl (lv_at hl 1 rfl) ?_
  refine lv_iload hx hb dL_law_759 (lv_at hl 6 rfl) ?_
  refine lv_iconst (v := 1) hx hb dL_law_761 (by decide) ?_
  refine lv_iadd hx hb dL_law_762 ?_
  rw [show nI (4 * k) + 1 = nI (4 * k + 1) from nI_add _ _]
  refine va_sld hx hb hX hbl hbA hI.2.1 (vp_in_nI (show 4 * k + 1 < N from by omega) (by omega)) dL_law_763 ?_
  obtain ⟨⟨⟨hkx, hkm, hkq⟩, hR, ⟨htM, htb⟩, ⟨aC, hkC, hC⟩, ⟨aT, hkT, hT⟩, ⟨co, hkO, hO⟩, ⟨sp, hkS, hS9⟩, lc, eC, nC, mC, cf9, lt, eT, nT, mT, tf, hMo⟩, -⟩ := id hJ
  refine z_ci hI (va_runV (As := [.int (xs (nI (4 * k + 1)).toNatClampNeg)]) (rest := []) ⟨hx, hb, hml, hown, hts⟩ (c_X11_heat l D tc z0 _ κ g _ pm hkm (xs (nI (4 * k + 1)).toNatClampNeg) lc eC nC mC cf9 lt eT nT mT tf hMo ) (cwV 1 hts gL_law_X11_heat rfl rfl rfl (by decide +kernel) ⟨Nat.le_of_ble_eq_true rfl, Nat.le_of_ble_eq_true rfl⟩) (z_preV (Xc := []) hK hE hI [] rfl rfl (z_recv hK hI hkm rfl rfl)) rfl rfl hl.1 rfl (lv_room (Nat.le_of_ble_eq_true rfl)) dL_law_764 ⟨(show 60 + 20 * k + 37 * t + 1 + 0 ≤ 798071 from by omega), (show 400 + 120 * k + 162 * t + 6 + 0 ≤ 6701890 from by omega)⟩) (fun w u H locs hw hI => ?_)
  obtain ⟨x9, rfl⟩ := hw
  have hJ := hJ.upM (j := 12) (v := .int x9) (by decide)
  have hI : zI D tc (zA [] [] s.heap.size) s.heap [] L κ (zup g pm 12 (.int x9)) H locs := hI
  generalize (zup g pm 12 (.int x9)) = g at hI hJ
  refine lv_istore (lv' := [(7, .int w), (6, .int v), (0, .ref b), (1, .ref (P 0)), (2, .ref pm), (3, .ref po), (4, .ref pd), (5, .int (nI (4 * k)))]) hx hb dL_law_767 hl (by decide) rfl (fun ls hl => ?_)
  refine lv_goto (tgt := 1364) hx hb dL_law_769 (by decide) ?_
  have hl := lv_sub hl [2, 3, 4, 5, 6, 7] (l' := [(0, .ref b), (1, .ref (P 0)), (2, .ref pm), (3, .ref po), (4, .ref pd), (5, .int (nI (4 * k)))]) rfl
  refine W.widen (k := 60 + 20 * (k + 1) + 37 * t) (n := 400 + 120 * (k + 1) + 162 * t) (by omega) (by omega) ?_
  refine W.base ?_
  exact hN s.drawn L κ g _ _ _ _ (Drawn.sameBut.refl _ _) hJ hko hkd hI hl

set_option maxHeartbeats 4000000 in
set_option maxRecDepth 100000 in
theorem k_degrees (l : Launch) (hnt : l.stackTraces = false) {p : Program} {e : Env} {s : State} {m : MethodId} {below : List Frame} {meth : Method} {c : Code} {H : Heap} {locs : List Loc} {Q : State → Prop} {D : va_G} {tc : Nat → ClassId} {z0 b N : Nat} {xs : Nat → Int32} {px pm po pd rq t k : Nat} {L : List Nat} {κ : Nat → Nat} {g : Nat → Nat → Value} {ls : Array Slot} (C : lwC p s m meth c b N xs D tc z0) (hk : 4 * k + 4 ≤ N) (hN8 : N ≤ 2048) (hJ : zJ κ g z0 px pm rq t k) (hko : κ po = 29) (hkd : κ pd = 30) (hI : zI D tc (zA [] [] s.heap.size) s.heap [] L κ g H locs) (hl : lv_has ls 9 [(0, .ref b), (1, .ref px), (2, .ref pm), (3, .ref po), (4, .ref pd), (5, .int (nI (4 * k)))]) (hN : lwN p l e s m below meth c b D tc z0 px pm po pd rq k Q) : W p l e room_1 s m #[Value.ref b] below meth c H locs (60 + 20 * k + 37 * t) (400 + 120 * k + 162 * t) Q (F0 m 772 ls []) := by
  obtain ⟨hx, hb, hml, hown, hts, hK, hE, hX, hbl⟩ := C
  have hbA : ¬ zA [] [] s.heap.size b := fun q => by rcases q with q | q | q; exact absurd q List.not_mem_nil; exact absurd q List.not_mem_nil; exact absurd hbl (Nat.not_lt.mpr q)
  have htb9 : t ≤ 9999 := hJ.1.2.2.1.2
  obtain ⟨⟨⟨hkx, hkm, hkq⟩, hR, ⟨htM, htb⟩, ⟨aC, hkC, hC⟩, ⟨aT, hkT, hT⟩, ⟨co, hkO, hO⟩, ⟨sp, hkS, hS9⟩, lc, eC, nC, mC, cf9, lt, eT, nT, mT, tf, hMo⟩, P, cf, bf, a9, q9, nc, t9, rfl, hSd⟩ := id hJ
  have hWa : zWa g aC 19998 := by rw [show aC = P 1 from Value.ref.inj (hC.symm.trans hSd.1.2.1.1)]; exact (hSd.1.wa hSd.2.2.2.2.2.1).mono2 (by have := hSd.2.2.2.2.1; omega)
  refine lv_aload_n hx hb dL_law_772 rfl (lv_at hl 1 rfl) ?_
  refine lv_aload_n hx hb dL_law_773 rfl (lv_at hl 0 rfl) ?_
  refine lv_iload hx hb dL_law_774 (lv_at hl 5 rfl) ?_
  refine lv_iconst (v := 1) hx hb dL_law_776 (by decide) ?_
  refine lv_iadd hx hb dL_law_777 ?_
  rw [show nI (4 * k) + 1 = nI (4 * k + 1) from nI_add _ _]
  refine va_sld hx hb hX hbl hbA hI.2.1 (vp_in_nI (show 4 * k + 1 < N from by omega) (by omega)) dL_law_778 ?_
  refine lv_aload_n hx hb dL_law_779 rfl (lv_at hl 3 rfl) ?_
  refine z_xi hI (vx_runSX (As := [.ref (P 0), .int (xs (nI (4 * k + 1)).toNatClampNeg), .ref po]) (rest := []) ⟨hx, hb, hml, hown, hts⟩ (c_L_degrees l hnt D tc z0 _ κ g _ (P 0) hkx (xs (nI (4 * k + 1)).toNatClampNeg) po hko aC hC) (vx_cwSW 3 hts gL_law_L_degrees rfl rfl rfl (by decide +kernel) ⟨Nat.le_of_ble_eq_true rfl, Nat.le_of_ble_eq_true rfl⟩) (z_pre (Xc := []) hK hE hI [] rfl rfl) rfl rfl hl.1 rfl (lv_room (Nat.le_of_ble_eq_true rfl)) dL_law_780 ⟨(show 60 + 20 * k + 37 * t + 1 ≤ 798071 from by omega), (show 400 + 120 * k + 162 * t + 6 ≤ 6701890 from by omega)⟩) (fun E ce q9 u H locs hw hI he1 he2 he3 => hw.elim) (fun v u H locs hw hI => ?_)
  obtain ⟨L1, κ1, g1⟩ := u
  have hI : zI D tc (zA [] [] s.heap.size) s.heap [] L1 κ1 g1 H locs := hI
  have hJ : zJ κ1 g1 z0 (P 0) pm rq t (k + 1) ∧ κ1 po = 29 ∧ κ1 pd = 30 := by
    rcases hw with ⟨_, r1, u1, v9, hp, hu⟩ | ⟨_, hp⟩
    · cases hu
      have hp9 : u1 = (L, κ, g) := by first | exact hp | exact hp.2 | exact hp.2.2 | exact hp.2.2.2
      cases hp9
      exact ⟨(hJ.up hko (by decide)).more, hko, hkd⟩
    · obtain ⟨_, hp⟩ := hp
      cases hp
      exact ⟨hJ.more, hko, hkd⟩
  obtain ⟨hJ, hko, hkd⟩ := hJ
  clear hw
  obtain ⟨L, rfl⟩ : ∃ x, x = L1 := ⟨_, rfl⟩
  obtain ⟨κ, rfl⟩ : ∃ x, x = κ1 := ⟨_, rfl⟩
  obtain ⟨g, rfl⟩ : ∃ x, x = g1 := ⟨_, rfl⟩
  refine lv_istore (lv' := [(6, .int v), (0, .ref b), (1, .ref (P 0)), (2, .ref pm), (3, .ref po), (4, .ref pd), (5, .int (nI (4 * k)))]) hx hb dL_law_783 hl (by decide) rfl (fun ls hl => ?_)
  refine lv_aload_n hx hb dL_law_785 rfl (lv_at hl 3 rfl) ?_
  refine lv_aload_n hx hb dL_law_786 rfl (lv_at hl 1 rfl) ?_
  refine lv_iload hx hb dL_law_787 (lv_at hl 6 rfl) ?_
  refine lv_iconst (v := 1) hx hb dL_law_789 (by decide) ?_
  refine lv_iadd hx hb dL_law_790 ?_
  rw [show nI (4 * k) + 1 = nI (4 * k + 1) from nI_add _ _]
  refine va_sld hx hb hX hbl hbA hI.2.1 (vp_in_nI (show 4 * k + 1 < N from by omega) (by omega)) dL_law_791 ?_
  obtain ⟨⟨⟨hkx, hkm, hkq⟩, hR, ⟨htM, htb⟩, ⟨aC, hkC, hC⟩, ⟨aT, hkT, hT⟩, ⟨co, hkO, hO⟩, ⟨sp, hkS, hS9⟩, lc, eC, nC, mC, cf9, lt, eT, nT, mT, tf, hMo⟩, -⟩ := id hJ
  refine z_ci hI (va_runV (As := [.int (xs (nI (4 * k + 1)).toNatClampNeg)]) (rest := []) ⟨hx, hb, hml, hown, hts⟩ (c_X11_degrees l D tc z0 _ κ g _ pm hkm (xs (nI (4 * k + 1)).toNatClampNeg) lc eC nC mC cf9 lt eT nT mT tf hMo ) (cwV 1 hts gL_law_X11_degrees rfl rfl rfl (by decide +kernel) ⟨Nat.le_of_ble_eq_true rfl, Nat.le_of_ble_eq_true rfl⟩) (z_preV (Xc := []) hK hE hI [] rfl rfl (z_recv hK hI hkm rfl rfl)) rfl rfl hl.1 rfl (lv_room (Nat.le_of_ble_eq_true rfl)) dL_law_792 ⟨(show 60 + 20 * k + 37 * t + 1 + 0 ≤ 798071 from by omega), (show 400 + 120 * k + 162 * t + 6 + 0 ≤ 6701890 from by omega)⟩) (fun w u H locs hw hI => ?_)
  obtain ⟨x9, rfl⟩ := hw
  have hJ := hJ.upM (j := 12) (v := .int x9) (by decide)
  have hI : zI D tc (zA [] [] s.heap.size) s.heap [] L κ (zup g pm 12 (.int x9)) H locs := hI
  generalize (zup g pm 12 (.int x9)) = g at hI hJ
  refine lv_istore (lv' := [(7, .int w), (6, .int v), (0, .ref b), (1, .ref (P 0)), (2, .ref pm), (3, .ref po), (4, .ref pd), (5, .int (nI (4 * k)))]) hx hb dL_law_795 hl (by decide) rfl (fun ls hl => ?_)
  refine lv_goto (tgt := 1364) hx hb dL_law_797 (by decide) ?_
  have hl := lv_sub hl [2, 3, 4, 5, 6, 7] (l' := [(0, .ref b), (1, .ref (P 0)), (2, .ref pm), (3, .ref po), (4, .ref pd), (5, .int (nI (4 * k)))]) rfl
  refine W.widen (k := 60 + 20 * (k + 1) + 37 * t) (n := 400 + 120 * (k + 1) + 162 * t) (by omega) (by omega) ?_
  refine W.base ?_
  exact hN s.drawn L κ g _ _ _ _ (Drawn.sameBut.refl _ _) hJ hko hkd hI hl

set_option maxHeartbeats 4000000 in
set_option maxRecDepth 100000 in
theorem k_caseDegrees (l : Launch) (hnt : l.stackTraces = false) {p : Program} {e : Env} {s : State} {m : MethodId} {below : List Frame} {meth : Method} {c : Code} {H : Heap} {locs : List Loc} {Q : State → Prop} {D : va_G} {tc : Nat → ClassId} {z0 b N : Nat} {xs : Nat → Int32} {px pm po pd rq t k : Nat} {L : List Nat} {κ : Nat → Nat} {g : Nat → Nat → Value} {ls : Array Slot} (C : lwC p s m meth c b N xs D tc z0) (hk : 4 * k + 4 ≤ N) (hN8 : N ≤ 2048) (hJ : zJ κ g z0 px pm rq t k) (hko : κ po = 29) (hkd : κ pd = 30) (hI : zI D tc (zA [] [] s.heap.size) s.heap [] L κ g H locs) (hl : lv_has ls 9 [(0, .ref b), (1, .ref px), (2, .ref pm), (3, .ref po), (4, .ref pd), (5, .int (nI (4 * k)))]) (hN : lwN p l e s m below meth c b D tc z0 px pm po pd rq k Q) : W p l e room_1 s m #[Value.ref b] below meth c H locs (60 + 20 * k + 37 * t) (400 + 120 * k + 162 * t) Q (F0 m 800 ls []) := by
  obtain ⟨hx, hb, hml, hown, hts, hK, hE, hX, hbl⟩ := C
  have hbA : ¬ zA [] [] s.heap.size b := fun q => by rcases q with q | q | q; exact absurd q List.not_mem_nil; exact absurd q List.not_mem_nil; exact absurd hbl (Nat.not_lt.mpr q)
  have htb9 : t ≤ 9999 := hJ.1.2.2.1.2
  obtain ⟨⟨⟨hkx, hkm, hkq⟩, hR, ⟨htM, htb⟩, ⟨aC, hkC, hC⟩, ⟨aT, hkT, hT⟩, ⟨co, hkO, hO⟩, ⟨sp, hkS, hS9⟩, lc, eC, nC, mC, cf9, lt, eT, nT, mT, tf, hMo⟩, P, cf, bf, a9, q9, nc, t9, rfl, hSd⟩ := id hJ
  have hWa : zWa g aC 19998 := by rw [show aC = P 1 from Value.ref.inj (hC.symm.trans hSd.1.2.1.1)]; exact (hSd.1.wa hSd.2.2.2.2.2.1).mono2 (by have := hSd.2.2.2.2.1; omega)
  refine lv_aload_n hx hb dL_law_800 rfl (lv_at hl 1 rfl) ?_
  refine z_ci hI (va_runV (As := []) (rest := []) ⟨hx, hb, hml, hown, hts⟩ (c_X8_caseDegrees l D tc z0 _ κ g _ (P 0) hkx  ) (cwV 0 hts gL_law_X8_caseDegrees rfl rfl rfl (by decide +kernel) ⟨Nat.le_of_ble_eq_true rfl, Nat.le_of_ble_eq_true rfl⟩) (z_preV (Xc := []) hK hE hI [] rfl rfl (z_recv hK hI hkx rfl rfl)) rfl rfl hl.1 rfl (lv_room (Nat.le_of_ble_eq_true rfl)) dL_law_801 ⟨(show 60 + 20 * k + 37 * t + 0 ≤ 798071 from by omega), (show 400 + 120 * k + 162 * t + 0 ≤ 6701890 from by omega)⟩) (fun v u H locs hw hI => ?_)
  have hw9 : u = (L, κ, g) := by first | exact hw | exact hw.2 | exact hw.2.2 | exact hw.2.2.2
  obtain rfl := hw9
  have hJ := hJ.more
  have hI : zI D tc (zA [] [] s.heap.size) s.heap [] L κ g H locs := hI
  refine lv_pop hx hb dL_law_804 rfl ?_
  refine lv_aload_n hx hb dL_law_805 rfl (lv_at hl 2 rfl) ?_
  obtain ⟨⟨⟨hkx, hkm, hkq⟩, hR, ⟨htM, htb⟩, ⟨aC, hkC, hC⟩, ⟨aT, hkT, hT⟩, ⟨co, hkO, hO⟩, ⟨sp, hkS, hS9⟩, lc, eC, nC, mC, cf9, lt, eT, nT, mT, tf, hMo⟩, -⟩ := id hJ
  refine z_ci hI (va_runV (As := []) (rest := []) ⟨hx, hb, hml, hown, hts⟩ (c_X11_caseDegrees l D tc z0 _ κ g _ pm hkm   ) (cwV 0 hts gL_law_X11_caseDegrees rfl rfl rfl (by decide +kernel) ⟨Nat.le_of_ble_eq_true rfl, Nat.le_of_ble_eq_true rfl⟩) (z_preV (Xc := []) hK hE hI [] rfl rfl (z_recv hK hI hkm rfl rfl)) rfl rfl hl.1 rfl (lv_room (Nat.le_of_ble_eq_true rfl)) dL_law_806 ⟨(show 60 + 20 * k + 37 * t + 0 + 0 ≤ 798071 from by omega), (show 400 + 120 * k + 162 * t + 0 + 0 ≤ 6701890 from by omega)⟩) (fun w u H locs hw hI => ?_)
  obtain ⟨x9, rfl⟩ := hw
  have hJ := hJ.upM (j := 12) (v := .int x9) (by decide)
  have hI : zI D tc (zA [] [] s.heap.size) s.heap [] L κ (zup g pm 12 (.int x9)) H locs := hI
  generalize (zup g pm 12 (.int x9)) = g at hI hJ
  refine lv_pop hx hb dL_law_809 rfl ?_
  refine lv_goto (tgt := 1364) hx hb dL_law_810 (by decide) ?_
  have hl := lv_sub hl [0, 1, 2, 3, 4, 5] (l' := [(0, .ref b), (1, .ref (P 0)), (2, .ref pm), (3, .ref po), (4, .ref pd), (5, .int (nI (4 * k)))]) rfl
  refine W.widen (k := 60 + 20 * (k + 1) + 37 * t) (n := 400 + 120 * (k + 1) + 162 * t) (by omega) (by omega) ?_
  refine W.base ?_
  exact hN s.drawn L κ g _ _ _ _ (Drawn.sameBut.refl _ _) hJ hko hkd hI hl

set_option maxHeartbeats 4000000 in
set_option maxRecDepth 100000 in
theorem k_sensor (l : Launch) (hnt : l.stackTraces = false) {p : Program} {e : Env} {s : State} {m : MethodId} {below : List Frame} {meth : Method} {c : Code} {H : Heap} {locs : List Loc} {Q : State → Prop} {D : va_G} {tc : Nat → ClassId} {z0 b N : Nat} {xs : Nat → Int32} {px pm po pd rq t k : Nat} {L : List Nat} {κ : Nat → Nat} {g : Nat → Nat → Value} {ls : Array Slot} (C : lwC p s m meth c b N xs D tc z0) (hk : 4 * k + 4 ≤ N) (hN8 : N ≤ 2048) (hJ : zJ κ g z0 px pm rq t k) (hko : κ po = 29) (hkd : κ pd = 30) (hI : zI D tc (zA [] [] s.heap.size) s.heap [] L κ g H locs) (hl : lv_has ls 9 [(0, .ref b), (1, .ref px), (2, .ref pm), (3, .ref po), (4, .ref pd), (5, .int (nI (4 * k)))]) (hN : lwN p l e s m below meth c b D tc z0 px pm po pd rq k Q) : W p l e room_1 s m #[Value.ref b] below meth c H locs (60 + 20 * k + 37 * t) (400 + 120 * k + 162 * t) Q (F0 m 813 ls []) := by
  obtain ⟨hx, hb, hml, hown, hts, hK, hE, hX, hbl⟩ := C
  have hbA : ¬ zA [] [] s.heap.size b := fun q => by rcases q with q | q | q; exact absurd q List.not_mem_nil; exact absurd q List.not_mem_nil; exact absurd hbl (Nat.not_lt.mpr q)
  have htb9 : t ≤ 9999 := hJ.1.2.2.1.2
  obtain ⟨⟨⟨hkx, hkm, hkq⟩, hR, ⟨htM, htb⟩, ⟨aC, hkC, hC⟩, ⟨aT, hkT, hT⟩, ⟨co, hkO, hO⟩, ⟨sp, hkS, hS9⟩, lc, eC, nC, mC, cf9, lt, eT, nT, mT, tf, hMo⟩, P, cf, bf, a9, q9, nc, t9, rfl, hSd⟩ := id hJ
  have hWa : zWa g aC 19998 := by rw [show aC = P 1 from Value.ref.inj (hC.symm.trans hSd.1.2.1.1)]; exact (hSd.1.wa hSd.2.2.2.2.2.1).mono2 (by have := hSd.2.2.2.2.1; omega)
  refine lv_aload_n hx hb dL_law_813 rfl (lv_at hl 1 rfl) ?_
  refine lv_aload_n hx hb dL_law_814 rfl (lv_at hl 0 rfl) ?_
  refine lv_iload hx hb dL_law_815 (lv_at hl 5 rfl) ?_
  refine lv_iconst (v := 1) hx hb dL_law_817 (by decide) ?_
  refine lv_iadd hx hb dL_law_818 ?_
  rw [show nI (4 * k) + 1 = nI (4 * k + 1) from nI_add _ _]
  refine va_sld hx hb hX hbl hbA hI.2.1 (vp_in_nI (show 4 * k + 1 < N from by omega) (by omega)) dL_law_819 ?_
  refine lv_aload_n hx hb dL_law_820 rfl (lv_at hl 3 rfl) ?_
  refine z_xi hI (vx_runSX (As := [.ref (P 0), .int (xs (nI (4 * k + 1)).toNatClampNeg), .ref po]) (rest := []) ⟨hx, hb, hml, hown, hts⟩ (c_L_sensor l hnt D tc z0 _ κ g _ (P 0) hkx (xs (nI (4 * k + 1)).toNatClampNeg) po hko aC hC) (vx_cwSW 3 hts gL_law_L_sensor rfl rfl rfl (by decide +kernel) ⟨Nat.le_of_ble_eq_true rfl, Nat.le_of_ble_eq_true rfl⟩) (z_pre (Xc := []) hK hE hI [] rfl rfl) rfl rfl hl.1 rfl (lv_room (Nat.le_of_ble_eq_true rfl)) dL_law_821 ⟨(show 60 + 20 * k + 37 * t + 2 ≤ 798071 from by omega), (show 400 + 120 * k + 162 * t + 12 ≤ 6701890 from by omega)⟩) (fun E ce q9 u H locs hw hI he1 he2 he3 => hw.elim) (fun v u H locs hw hI => ?_)
  obtain ⟨L1, κ1, g1⟩ := u
  have hI : zI D tc (zA [] [] s.heap.size) s.heap [] L1 κ1 g1 H locs := hI
  have hJ : zJ κ1 g1 z0 (P 0) pm rq t (k + 1) ∧ κ1 po = 29 ∧ κ1 pd = 30 := by
    rcases hw with ⟨_, r1, u1, v9, hp, hu⟩ | ⟨_, hp⟩ | ⟨_, hp⟩
    · cases hu
      have hp9 : u1 = (L, κ, g) := by first | exact hp | exact hp.2 | exact hp.2.2 | exact hp.2.2.2
      cases hp9
      exact ⟨(hJ.up hko (by decide)).more, hko, hkd⟩
    · obtain ⟨_, hp⟩ := hp
      cases hp
      exact ⟨hJ.more, hko, hkd⟩
    · obtain ⟨_, hp⟩ := hp
      cases hp
      exact ⟨hJ.more, hko, hkd⟩
  obtain ⟨hJ, hko, hkd⟩ := hJ
  clear hw
  obtain ⟨L, rfl⟩ : ∃ x, x = L1 := ⟨_, rfl⟩
  obtain ⟨κ, rfl⟩ : ∃ x, x = κ1 := ⟨_, rfl⟩
  obtain ⟨g, rfl⟩ : ∃ x, x = g1 := ⟨_, rfl⟩
  refine lv_istore (lv' := [(6, .int v), (0, .ref b), (1, .ref (P 0)), (2, .ref pm), (3, .ref po), (4, .ref pd), (5, .int (nI (4 * k)))]) hx hb dL_law_824 hl (by decide) rfl (fun ls hl => ?_)
  refine lv_aload_n hx hb dL_law_826 rfl (lv_at hl 3 rfl) ?_
  refine lv_aload_n hx hb dL_law_827 rfl (lv_at hl 1 rfl) ?_
  refine lv_iload hx hb dL_law_828 (lv_at hl 6 rfl) ?_
  refine lv_iconst (v := 1) hx hb dL_law_830 (by decide) ?_
  refine lv_iadd hx hb dL_law_831 ?_
  rw [show nI (4 * k) + 1 = nI (4 * k + 1) from nI_add _ _]
  refine va_sld hx hb hX hbl hbA hI.2.1 (vp_in_nI (show 4 * k + 1 < N from by omega) (by omega)) dL_law_832 ?_
  obtain ⟨⟨⟨hkx, hkm, hkq⟩, hR, ⟨htM, htb⟩, ⟨aC, hkC, hC⟩, ⟨aT, hkT, hT⟩, ⟨co, hkO, hO⟩, ⟨sp, hkS, hS9⟩, lc, eC, nC, mC, cf9, lt, eT, nT, mT, tf, hMo⟩, -⟩ := id hJ
  refine z_ci hI (va_runV (As := [.int (xs (nI (4 * k + 1)).toNatClampNeg)]) (rest := []) ⟨hx, hb, hml, hown, hts⟩ (c_X11_sensor l D tc z0 _ κ g _ pm hkm (xs (nI (4 * k + 1)).toNatClampNeg) lc eC nC mC cf9 lt eT nT mT tf hMo ) (cwV 1 hts gL_law_X11_sensor rfl rfl rfl (by decide +kernel) ⟨Nat.le_of_ble_eq_true rfl, Nat.le_of_ble_eq_true rfl⟩) (z_preV (Xc := []) hK hE hI [] rfl rfl (z_recv hK hI hkm rfl rfl)) rfl rfl hl.1 rfl (lv_room (Nat.le_of_ble_eq_true rfl)) dL_law_833 ⟨(show 60 + 20 * k + 37 * t + 2 + 0 ≤ 798071 from by omega), (show 400 + 120 * k + 162 * t + 12 + 0 ≤ 6701890 from by omega)⟩) (fun w u H locs hw hI => ?_)
  obtain ⟨x9, rfl⟩ := hw
  have hJ := hJ.upM (j := 12) (v := .int x9) (by decide)
  have hI : zI D tc (zA [] [] s.heap.size) s.heap [] L κ (zup g pm 12 (.int x9)) H locs := hI
  generalize (zup g pm 12 (.int x9)) = g at hI hJ
  refine lv_istore (lv' := [(7, .int w), (6, .int v), (0, .ref b), (1, .ref (P 0)), (2, .ref pm), (3, .ref po), (4, .ref pd), (5, .int (nI (4 * k)))]) hx hb dL_law_836 hl (by decide) rfl (fun ls hl => ?_)
  refine lv_goto (tgt := 1364) hx hb dL_law_838 (by decide) ?_
  have hl := lv_sub hl [2, 3, 4, 5, 6, 7] (l' := [(0, .ref b), (1, .ref (P 0)), (2, .ref pm), (3, .ref po), (4, .ref pd), (5, .int (nI (4 * k)))]) rfl
  refine W.widen (k := 60 + 20 * (k + 1) + 37 * t) (n := 400 + 120 * (k + 1) + 162 * t) (by omega) (by omega) ?_
  refine W.base ?_
  exact hN s.drawn L κ g _ _ _ _ (Drawn.sameBut.refl _ _) hJ hko hkd hI hl

set_option maxHeartbeats 4000000 in
set_option maxRecDepth 100000 in
theorem k_lose (l : Launch) (hnt : l.stackTraces = false) {p : Program} {e : Env} {s : State} {m : MethodId} {below : List Frame} {meth : Method} {c : Code} {H : Heap} {locs : List Loc} {Q : State → Prop} {D : va_G} {tc : Nat → ClassId} {z0 b N : Nat} {xs : Nat → Int32} {px pm po pd rq t k : Nat} {L : List Nat} {κ : Nat → Nat} {g : Nat → Nat → Value} {ls : Array Slot} (C : lwC p s m meth c b N xs D tc z0) (hk : 4 * k + 4 ≤ N) (hN8 : N ≤ 2048) (hJ : zJ κ g z0 px pm rq t k) (hko : κ po = 29) (hkd : κ pd = 30) (hI : zI D tc (zA [] [] s.heap.size) s.heap [] L κ g H locs) (hl : lv_has ls 9 [(0, .ref b), (1, .ref px), (2, .ref pm), (3, .ref po), (4, .ref pd), (5, .int (nI (4 * k)))]) (hN : lwN p l e s m below meth c b D tc z0 px pm po pd rq k Q) : W p l e room_1 s m #[Value.ref b] below meth c H locs (60 + 20 * k + 37 * t) (400 + 120 * k + 162 * t) Q (F0 m 841 ls []) := by
  obtain ⟨hx, hb, hml, hown, hts, hK, hE, hX, hbl⟩ := C
  have hbA : ¬ zA [] [] s.heap.size b := fun q => by rcases q with q | q | q; exact absurd q List.not_mem_nil; exact absurd q List.not_mem_nil; exact absurd hbl (Nat.not_lt.mpr q)
  have htb9 : t ≤ 9999 := hJ.1.2.2.1.2
  obtain ⟨⟨⟨hkx, hkm, hkq⟩, hR, ⟨htM, htb⟩, ⟨aC, hkC, hC⟩, ⟨aT, hkT, hT⟩, ⟨co, hkO, hO⟩, ⟨sp, hkS, hS9⟩, lc, eC, nC, mC, cf9, lt, eT, nT, mT, tf, hMo⟩, P, cf, bf, a9, q9, nc, t9, rfl, hSd⟩ := id hJ
  have hWa : zWa g aC 19998 := by rw [show aC = P 1 from Value.ref.inj (hC.symm.trans hSd.1.2.1.1)]; exact (hSd.1.wa hSd.2.2.2.2.2.1).mono2 (by have := hSd.2.2.2.2.1; omega)
  refine lv_aload_n hx hb dL_law_841 rfl (lv_at hl 1 rfl) ?_
  refine lv_aload_n hx hb dL_law_842 rfl (lv_at hl 0 rfl) ?_
  refine lv_iload hx hb dL_law_843 (lv_at hl 5 rfl) ?_
  refine lv_iconst (v := 1) hx hb dL_law_845 (by decide) ?_
  refine lv_iadd hx hb dL_law_846 ?_
  rw [show nI (4 * k) + 1 = nI (4 * k + 1) from nI_add _ _]
  refine va_sld hx hb hX hbl hbA hI.2.1 (vp_in_nI (show 4 * k + 1 < N from by omega) (by omega)) dL_law_847 ?_
  refine lv_aload_n hx hb dL_law_848 rfl (lv_at hl 0 rfl) ?_
  refine lv_iload hx hb dL_law_849 (lv_at hl 5 rfl) ?_
  refine lv_iconst (v := 2) hx hb dL_law_851 (by decide) ?_
  refine lv_iadd hx hb dL_law_852 ?_
  rw [show nI (4 * k) + 2 = nI (4 * k + 2) from nI_add _ _]
  refine va_sld hx hb hX hbl hbA hI.2.1 (vp_in_nI (show 4 * k + 2 < N from by omega) (by omega)) dL_law_853 ?_
  refine lv_if_eq (tgt := 861) hx hb dL_law_854 (by decide) (fun _ => ?_) (fun _ => ?_)
  · skip
    refine lv_iconst (v := 0) hx hb dL_law_861 (by decide) ?_
    refine lv_aload_n hx hb dL_law_862 rfl (lv_at hl 3 rfl) ?_
    refine z_xi hI (vx_runSX (As := [.ref (P 0), .int (xs (nI (4 * k + 1)).toNatClampNeg), .int 0, .ref po]) (rest := []) ⟨hx, hb, hml, hown, hts⟩ (c_L_lose l hnt D tc z0 _ κ g _ (P 0) hkx (xs (nI (4 * k + 1)).toNatClampNeg) 0 (Or.inl rfl) po hko aC hC) (vx_cwSW 4 hts gL_law_L_lose rfl rfl rfl (by decide +kernel) ⟨Nat.le_of_ble_eq_true rfl, Nat.le_of_ble_eq_true rfl⟩) (z_pre (Xc := []) hK hE hI [] rfl rfl) rfl rfl hl.1 rfl (lv_room (Nat.le_of_ble_eq_true rfl)) dL_law_863 ⟨(show 60 + 20 * k + 37 * t + 1 ≤ 798071 from by omega), (show 400 + 120 * k + 162 * t + 6 ≤ 6701890 from by omega)⟩) (fun E ce q9 u H locs hw hI he1 he2 he3 => hw.elim) (fun v u H locs hw hI => ?_)
    obtain ⟨L1, κ1, g1⟩ := u
    have hI : zI D tc (zA [] [] s.heap.size) s.heap [] L1 κ1 g1 H locs := hI
    have hJ : zJ κ1 g1 z0 (P 0) pm rq t (k + 1) ∧ κ1 po = 29 ∧ κ1 pd = 30 := by
      rcases hw with ⟨_, r1, u1, v9, hp, hu⟩ | ⟨_, hp⟩
      · cases hu
        have hp9 : u1 = (L, κ, g) := by first | exact hp | exact hp.2 | exact hp.2.2 | exact hp.2.2.2
        cases hp9
        exact ⟨(hJ.up hko (by decide)).more, hko, hkd⟩
      · obtain ⟨_, hp⟩ := hp
        cases hp
        exact ⟨hJ.more, hko, hkd⟩
    obtain ⟨hJ, hko, hkd⟩ := hJ
    clear hw
    obtain ⟨L, rfl⟩ : ∃ x, x = L1 := ⟨_, rfl⟩
    obtain ⟨κ, rfl⟩ : ∃ x, x = κ1 := ⟨_, rfl⟩
    obtain ⟨g, rfl⟩ : ∃ x, x = g1 := ⟨_, rfl⟩
    refine lv_istore (lv' := [(6, .int v), (0, .ref b), (1, .ref (P 0)), (2, .ref pm), (3, .ref po), (4, .ref pd), (5, .int (nI (4 * k)))]) hx hb dL_law_866 hl (by decide) rfl (fun ls hl => ?_)
    refine lv_aload_n hx hb dL_law_868 rfl (lv_at hl 3 rfl) ?_
    refine lv_aload_n hx hb dL_law_869 rfl (lv_at hl 1 rfl) ?_
    refine lv_iload hx hb dL_law_870 (lv_at hl 6 rfl) ?_
    refine lv_iconst (v := 1) hx hb dL_law_872 (by decide) ?_
    refine lv_iadd hx hb dL_law_873 ?_
    rw [show nI (4 * k) + 1 = nI (4 * k + 1) from nI_add _ _]
    refine va_sld hx hb hX hbl hbA hI.2.1 (vp_in_nI (show 4 * k + 1 < N from by omega) (by omega)) dL_law_874 ?_
    refine lv_aload_n hx hb dL_law_875 rfl (lv_at hl 1 rfl) ?_
    refine lv_iload hx hb dL_law_876 (lv_at hl 6 rfl) ?_
    refine lv_iconst (v := 2) hx hb dL_law_878 (by decide) ?_
    refine lv_iadd hx hb dL_law_879 ?_
    rw [show nI (4 * k) + 2 = nI (4 * k + 2) from nI_add _ _]
    refine va_sld hx hb hX hbl hbA hI.2.1 (vp_in_nI (show 4 * k + 2 < N from by omega) (by omega)) dL_law_880 ?_
    refine lv_if_eq (tgt := 888) hx hb dL_law_881 (by decide) (fun _ => ?_) (fun _ => ?_)
    · skip
      refine lv_iconst (v := 0) hx hb dL_law_888 (by decide) ?_
      obtain ⟨⟨⟨hkx, hkm, hkq⟩, hR, ⟨htM, htb⟩, ⟨aC, hkC, hC⟩, ⟨aT, hkT, hT⟩, ⟨co, hkO, hO⟩, ⟨sp, hkS, hS9⟩, lc, eC, nC, mC, cf9, lt, eT, nT, mT, tf, hMo⟩, -⟩ := id hJ
      refine z_ci hI (va_runV (As := [.int (xs (nI (4 * k + 1)).toNatClampNeg), .int 0]) (rest := []) ⟨hx, hb, hml, hown, hts⟩ (c_X11_lose l D tc z0 _ κ g _ pm hkm (xs (nI (4 * k + 1)).toNatClampNeg) 0 (Or.inl rfl) lc eC nC mC cf9 lt eT nT mT tf hMo ) (cwV 2 hts gL_law_X11_lose rfl rfl rfl (by decide +kernel) ⟨Nat.le_of_ble_eq_true rfl, Nat.le_of_ble_eq_true rfl⟩) (z_preV (Xc := []) hK hE hI [] rfl rfl (z_recv hK hI hkm rfl rfl)) rfl rfl hl.1 rfl (lv_room (Nat.le_of_ble_eq_true rfl)) dL_law_889 ⟨(show 60 + 20 * k + 37 * t + 1 + 0 ≤ 798071 from by omega), (show 400 + 120 * k + 162 * t + 6 + 0 ≤ 6701890 from by omega)⟩) (fun w u H locs hw hI => ?_)
      obtain ⟨L1, κ1, g1⟩ := u
      have hI : zI D tc (zA [] [] s.heap.size) s.heap [] L1 κ1 g1 H locs := hI
      have hJ : zJ κ1 g1 z0 (P 0) pm rq t (k + 1) ∧ κ1 po = 29 ∧ κ1 pd = 30 := by
        rcases hw with ⟨_, _, hu⟩ | ⟨i9, hi9, _, _, _, hu⟩
        · cases hu
          exact ⟨hJ.upM (by decide), hko, hkd⟩
        · cases hu
          exact ⟨(hJ.upM (by decide)).up (hMo.LC.el hi9) (by decide), hko, hkd⟩
      obtain ⟨hJ, hko, hkd⟩ := hJ
      obtain ⟨L, rfl⟩ : ∃ x, x = L1 := ⟨_, rfl⟩
      obtain ⟨κ, rfl⟩ : ∃ x, x = κ1 := ⟨_, rfl⟩
      obtain ⟨g, rfl⟩ : ∃ x, x = g1 := ⟨_, rfl⟩
      refine lv_istore (lv' := [(7, .int w), (6, .int v), (0, .ref b), (1, .ref (P 0)), (2, .ref pm), (3, .ref po), (4, .ref pd), (5, .int (nI (4 * k)))]) hx hb dL_law_892 hl (by decide) rfl (fun ls hl => ?_)
      refine lv_goto (tgt := 1364) hx hb dL_law_894 (by decide) ?_
      have hl := lv_sub hl [2, 3, 4, 5, 6, 7] (l' := [(0, .ref b), (1, .ref (P 0)), (2, .ref pm), (3, .ref po), (4, .ref pd), (5, .int (nI (4 * k)))]) rfl
      refine W.widen (k := 60 + 20 * (k + 1) + 37 * t) (n := 400 + 120 * (k + 1) + 162 * t) (by omega) (by omega) ?_
      refine W.base ?_
      exact hN s.drawn L κ g _ _ _ _ (Drawn.sameBut.refl _ _) hJ hko hkd hI hl
    · skip
      refine lv_iconst (v := 1) hx hb dL_law_884 (by decide) ?_
      refine lv_goto (tgt := 889) hx hb dL_law_885 (by decide) ?_
      obtain ⟨⟨⟨hkx, hkm, hkq⟩, hR, ⟨htM, htb⟩, ⟨aC, hkC, hC⟩, ⟨aT, hkT, hT⟩, ⟨co, hkO, hO⟩, ⟨sp, hkS, hS9⟩, lc, eC, nC, mC, cf9, lt, eT, nT, mT, tf, hMo⟩, -⟩ := id hJ
      refine z_ci hI (va_runV (As := [.int (xs (nI (4 * k + 1)).toNatClampNeg), .int 1]) (rest := []) ⟨hx, hb, hml, hown, hts⟩ (c_X11_lose l D tc z0 _ κ g _ pm hkm (xs (nI (4 * k + 1)).toNatClampNeg) 1 (Or.inr rfl) lc eC nC mC cf9 lt eT nT mT tf hMo ) (cwV 2 hts gL_law_X11_lose rfl rfl rfl (by decide +kernel) ⟨Nat.le_of_ble_eq_true rfl, Nat.le_of_ble_eq_true rfl⟩) (z_preV (Xc := []) hK hE hI [] rfl rfl (z_recv hK hI hkm rfl rfl)) rfl rfl hl.1 rfl (lv_room (Nat.le_of_ble_eq_true rfl)) dL_law_889 ⟨(show 60 + 20 * k + 37 * t + 1 + 0 ≤ 798071 from by omega), (show 400 + 120 * k + 162 * t + 6 + 0 ≤ 6701890 from by omega)⟩) (fun w u H locs hw hI => ?_)
      obtain ⟨L1, κ1, g1⟩ := u
      have hI : zI D tc (zA [] [] s.heap.size) s.heap [] L1 κ1 g1 H locs := hI
      have hJ : zJ κ1 g1 z0 (P 0) pm rq t (k + 1) ∧ κ1 po = 29 ∧ κ1 pd = 30 := by
        rcases hw with ⟨_, _, hu⟩ | ⟨i9, hi9, _, _, _, hu⟩
        · cases hu
          exact ⟨hJ.upM (by decide), hko, hkd⟩
        · cases hu
          exact ⟨(hJ.upM (by decide)).up (hMo.LC.el hi9) (by decide), hko, hkd⟩
      obtain ⟨hJ, hko, hkd⟩ := hJ
      obtain ⟨L, rfl⟩ : ∃ x, x = L1 := ⟨_, rfl⟩
      obtain ⟨κ, rfl⟩ : ∃ x, x = κ1 := ⟨_, rfl⟩
      obtain ⟨g, rfl⟩ : ∃ x, x = g1 := ⟨_, rfl⟩
      refine lv_istore (lv' := [(7, .int w), (6, .int v), (0, .ref b), (1, .ref (P 0)), (2, .ref pm), (3, .ref po), (4, .ref pd), (5, .int (nI (4 * k)))]) hx hb dL_law_892 hl (by decide) rfl (fun ls hl => ?_)
      refine lv_goto (tgt := 1364) hx hb dL_law_894 (by decide) ?_
      have hl := lv_sub hl [2, 3, 4, 5, 6, 7] (l' := [(0, .ref b), (1, .ref (P 0)), (2, .ref pm), (3, .ref po), (4, .ref pd), (5, .int (nI (4 * k)))]) rfl
      refine W.widen (k := 60 + 20 * (k + 1) + 37 * t) (n := 400 + 120 * (k + 1) + 162 * t) (by omega) (by omega) ?_
      refine W.base ?_
      exact hN s.drawn L κ g _ _ _ _ (Drawn.sameBut.refl _ _) hJ hko hkd hI hl
  · skip
    refine lv_iconst (v := 1) hx hb dL_law_857 (by decide) ?_
    refine lv_goto (tgt := 862) hx hb dL_law_858 (by decide) ?_
    refine lv_aload_n hx hb dL_law_862 rfl (lv_at hl 3 rfl) ?_
    refine z_xi hI (vx_runSX (As := [.ref (P 0), .int (xs (nI (4 * k + 1)).toNatClampNeg), .int 1, .ref po]) (rest := []) ⟨hx, hb, hml, hown, hts⟩ (c_L_lose l hnt D tc z0 _ κ g _ (P 0) hkx (xs (nI (4 * k + 1)).toNatClampNeg) 1 (Or.inr rfl) po hko aC hC) (vx_cwSW 4 hts gL_law_L_lose rfl rfl rfl (by decide +kernel) ⟨Nat.le_of_ble_eq_true rfl, Nat.le_of_ble_eq_true rfl⟩) (z_pre (Xc := []) hK hE hI [] rfl rfl) rfl rfl hl.1 rfl (lv_room (Nat.le_of_ble_eq_true rfl)) dL_law_863 ⟨(show 60 + 20 * k + 37 * t + 1 ≤ 798071 from by omega), (show 400 + 120 * k + 162 * t + 6 ≤ 6701890 from by omega)⟩) (fun E ce q9 u H locs hw hI he1 he2 he3 => hw.elim) (fun v u H locs hw hI => ?_)
    obtain ⟨L1, κ1, g1⟩ := u
    have hI : zI D tc (zA [] [] s.heap.size) s.heap [] L1 κ1 g1 H locs := hI
    have hJ : zJ κ1 g1 z0 (P 0) pm rq t (k + 1) ∧ κ1 po = 29 ∧ κ1 pd = 30 := by
      rcases hw with ⟨_, r1, u1, v9, hp, hu⟩ | ⟨_, hp⟩
      · cases hu
        have hp9 : u1 = (L, κ, g) := by first | exact hp | exact hp.2 | exact hp.2.2 | exact hp.2.2.2
        cases hp9
        exact ⟨(hJ.up hko (by decide)).more, hko, hkd⟩
      · obtain ⟨_, hp⟩ := hp
        cases hp
        exact ⟨hJ.more, hko, hkd⟩
    obtain ⟨hJ, hko, hkd⟩ := hJ
    clear hw
    obtain ⟨L, rfl⟩ : ∃ x, x = L1 := ⟨_, rfl⟩
    obtain ⟨κ, rfl⟩ : ∃ x, x = κ1 := ⟨_, rfl⟩
    obtain ⟨g, rfl⟩ : ∃ x, x = g1 := ⟨_, rfl⟩
    refine lv_istore (lv' := [(6, .int v), (0, .ref b), (1, .ref (P 0)), (2, .ref pm), (3, .ref po), (4, .ref pd), (5, .int (nI (4 * k)))]) hx hb dL_law_866 hl (by decide) rfl (fun ls hl => ?_)
    refine lv_aload_n hx hb dL_law_868 rfl (lv_at hl 3 rfl) ?_
    refine lv_aload_n hx hb dL_law_869 rfl (lv_at hl 1 rfl) ?_
    refine lv_iload hx hb dL_law_870 (lv_at hl 6 rfl) ?_
    refine lv_iconst (v := 1) hx hb dL_law_872 (by decide) ?_
    refine lv_iadd hx hb dL_law_873 ?_
    rw [show nI (4 * k) + 1 = nI (4 * k + 1) from nI_add _ _]
    refine va_sld hx hb hX hbl hbA hI.2.1 (vp_in_nI (show 4 * k + 1 < N from by omega) (by omega)) dL_law_874 ?_
    refine lv_aload_n hx hb dL_law_875 rfl (lv_at hl 1 rfl) ?_
    refine lv_iload hx hb dL_law_876 (lv_at hl 6 rfl) ?_
    refine lv_iconst (v := 2) hx hb dL_law_878 (by decide) ?_
    refine lv_iadd hx hb dL_law_879 ?_
    rw [show nI (4 * k) + 2 = nI (4 * k + 2) from nI_add _ _]
    refine va_sld hx hb hX hbl hbA hI.2.1 (vp_in_nI (show 4 * k + 2 < N from by omega) (by omega)) dL_law_880 ?_
    refine lv_if_eq (tgt := 888) hx hb dL_law_881 (by decide) (fun _ => ?_) (fun _ => ?_)
    · skip
      refine lv_iconst (v := 0) hx hb dL_law_888 (by decide) ?_
      obtain ⟨⟨⟨hkx, hkm, hkq⟩, hR, ⟨htM, htb⟩, ⟨aC, hkC, hC⟩, ⟨aT, hkT, hT⟩, ⟨co, hkO, hO⟩, ⟨sp, hkS, hS9⟩, lc, eC, nC, mC, cf9, lt, eT, nT, mT, tf, hMo⟩, -⟩ := id hJ
      refine z_ci hI (va_runV (As := [.int (xs (nI (4 * k + 1)).toNatClampNeg), .int 0]) (rest := []) ⟨hx, hb, hml, hown, hts⟩ (c_X11_lose l D tc z0 _ κ g _ pm hkm (xs (nI (4 * k + 1)).toNatClampNeg) 0 (Or.inl rfl) lc eC nC mC cf9 lt eT nT mT tf hMo ) (cwV 2 hts gL_law_X11_lose rfl rfl rfl (by decide +kernel) ⟨Nat.le_of_ble_eq_true rfl, Nat.le_of_ble_eq_true rfl⟩) (z_preV (Xc := []) hK hE hI [] rfl rfl (z_recv hK hI hkm rfl rfl)) rfl rfl hl.1 rfl (lv_room (Nat.le_of_ble_eq_true rfl)) dL_law_889 ⟨(show 60 + 20 * k + 37 * t + 1 + 0 ≤ 798071 from by omega), (show 400 + 120 * k + 162 * t + 6 + 0 ≤ 6701890 from by omega)⟩) (fun w u H locs hw hI => ?_)
      obtain ⟨L1, κ1, g1⟩ := u
      have hI : zI D tc (zA [] [] s.heap.size) s.heap [] L1 κ1 g1 H locs := hI
      have hJ : zJ κ1 g1 z0 (P 0) pm rq t (k + 1) ∧ κ1 po = 29 ∧ κ1 pd = 30 := by
        rcases hw with ⟨_, _, hu⟩ | ⟨i9, hi9, _, _, _, hu⟩
        · cases hu
          exact ⟨hJ.upM (by decide), hko, hkd⟩
        · cases hu
          exact ⟨(hJ.upM (by decide)).up (hMo.LC.el hi9) (by decide), hko, hkd⟩
      obtain ⟨hJ, hko, hkd⟩ := hJ
      obtain ⟨L, rfl⟩ : ∃ x, x = L1 := ⟨_, rfl⟩
      obtain ⟨κ, rfl⟩ : ∃ x, x = κ1 := ⟨_, rfl⟩
      obtain ⟨g, rfl⟩ : ∃ x, x = g1 := ⟨_, rfl⟩
      refine lv_istore (lv' := [(7, .int w), (6, .int v), (0, .ref b), (1, .ref (P 0)), (2, .ref pm), (3, .ref po), (4, .ref pd), (5, .int (nI (4 * k)))]) hx hb dL_law_892 hl (by decide) rfl (fun ls hl => ?_)
      refine lv_goto (tgt := 1364) hx hb dL_law_894 (by decide) ?_
      have hl := lv_sub hl [2, 3, 4, 5, 6, 7] (l' := [(0, .ref b), (1, .ref (P 0)), (2, .ref pm), (3, .ref po), (4, .ref pd), (5, .int (nI (4 * k)))]) rfl
      refine W.widen (k := 60 + 20 * (k + 1) + 37 * t) (n := 400 + 120 * (k + 1) + 162 * t) (by omega) (by omega) ?_
      refine W.base ?_
      exact hN s.drawn L κ g _ _ _ _ (Drawn.sameBut.refl _ _) hJ hko hkd hI hl
    · skip
      refine lv_iconst (v := 1) hx hb dL_law_884 (by decide) ?_
      refine lv_goto (tgt := 889) hx hb dL_law_885 (by decide) ?_
      obtain ⟨⟨⟨hkx, hkm, hkq⟩, hR, ⟨htM, htb⟩, ⟨aC, hkC, hC⟩, ⟨aT, hkT, hT⟩, ⟨co, hkO, hO⟩, ⟨sp, hkS, hS9⟩, lc, eC, nC, mC, cf9, lt, eT, nT, mT, tf, hMo⟩, -⟩ := id hJ
      refine z_ci hI (va_runV (As := [.int (xs (nI (4 * k + 1)).toNatClampNeg), .int 1]) (rest := []) ⟨hx, hb, hml, hown, hts⟩ (c_X11_lose l D tc z0 _ κ g _ pm hkm (xs (nI (4 * k + 1)).toNatClampNeg) 1 (Or.inr rfl) lc eC nC mC cf9 lt eT nT mT tf hMo ) (cwV 2 hts gL_law_X11_lose rfl rfl rfl (by decide +kernel) ⟨Nat.le_of_ble_eq_true rfl, Nat.le_of_ble_eq_true rfl⟩) (z_preV (Xc := []) hK hE hI [] rfl rfl (z_recv hK hI hkm rfl rfl)) rfl rfl hl.1 rfl (lv_room (Nat.le_of_ble_eq_true rfl)) dL_law_889 ⟨(show 60 + 20 * k + 37 * t + 1 + 0 ≤ 798071 from by omega), (show 400 + 120 * k + 162 * t + 6 + 0 ≤ 6701890 from by omega)⟩) (fun w u H locs hw hI => ?_)
      obtain ⟨L1, κ1, g1⟩ := u
      have hI : zI D tc (zA [] [] s.heap.size) s.heap [] L1 κ1 g1 H locs := hI
      have hJ : zJ κ1 g1 z0 (P 0) pm rq t (k + 1) ∧ κ1 po = 29 ∧ κ1 pd = 30 := by
        rcases hw with ⟨_, _, hu⟩ | ⟨i9, hi9, _, _, _, hu⟩
        · cases hu
          exact ⟨hJ.upM (by decide), hko, hkd⟩
        · cases hu
          exact ⟨(hJ.upM (by decide)).up (hMo.LC.el hi9) (by decide), hko, hkd⟩
      obtain ⟨hJ, hko, hkd⟩ := hJ
      obtain ⟨L, rfl⟩ : ∃ x, x = L1 := ⟨_, rfl⟩
      obtain ⟨κ, rfl⟩ : ∃ x, x = κ1 := ⟨_, rfl⟩
      obtain ⟨g, rfl⟩ : ∃ x, x = g1 := ⟨_, rfl⟩
      refine lv_istore (lv' := [(7, .int w), (6, .int v), (0, .ref b), (1, .ref (P 0)), (2, .ref pm), (3, .ref po), (4, .ref pd), (5, .int (nI (4 * k)))]) hx hb dL_law_892 hl (by decide) rfl (fun ls hl => ?_)
      refine lv_goto (tgt := 1364) hx hb dL_law_894 (by decide) ?_
      have hl := lv_sub hl [2, 3, 4, 5, 6, 7] (l' := [(0, .ref b), (1, .ref (P 0)), (2, .ref pm), (3, .ref po), (4, .ref pd), (5, .int (nI (4 * k)))]) rfl
      refine W.widen (k := 60 + 20 * (k + 1) + 37 * t) (n := 400 + 120 * (k + 1) + 162 * t) (by omega) (by omega) ?_
      refine W.base ?_
      exact hN s.drawn L κ g _ _ _ _ (Drawn.sameBut.refl _ _) hJ hko hkd hI hl

set_option maxHeartbeats 4000000 in
set_option maxRecDepth 100000 in
theorem k_isTripped (l : Launch) (hnt : l.stackTraces = false) {p : Program} {e : Env} {s : State} {m : MethodId} {below : List Frame} {meth : Method} {c : Code} {H : Heap} {locs : List Loc} {Q : State → Prop} {D : va_G} {tc : Nat → ClassId} {z0 b N : Nat} {xs : Nat → Int32} {px pm po pd rq t k : Nat} {L : List Nat} {κ : Nat → Nat} {g : Nat → Nat → Value} {ls : Array Slot} (C : lwC p s m meth c b N xs D tc z0) (hk : 4 * k + 4 ≤ N) (hN8 : N ≤ 2048) (hJ : zJ κ g z0 px pm rq t k) (hko : κ po = 29) (hkd : κ pd = 30) (hI : zI D tc (zA [] [] s.heap.size) s.heap [] L κ g H locs) (hl : lv_has ls 9 [(0, .ref b), (1, .ref px), (2, .ref pm), (3, .ref po), (4, .ref pd), (5, .int (nI (4 * k)))]) (hN : lwN p l e s m below meth c b D tc z0 px pm po pd rq k Q) : W p l e room_1 s m #[Value.ref b] below meth c H locs (60 + 20 * k + 37 * t) (400 + 120 * k + 162 * t) Q (F0 m 897 ls []) := by
  obtain ⟨hx, hb, hml, hown, hts, hK, hE, hX, hbl⟩ := C
  have hbA : ¬ zA [] [] s.heap.size b := fun q => by rcases q with q | q | q; exact absurd q List.not_mem_nil; exact absurd q List.not_mem_nil; exact absurd hbl (Nat.not_lt.mpr q)
  have htb9 : t ≤ 9999 := hJ.1.2.2.1.2
  obtain ⟨⟨⟨hkx, hkm, hkq⟩, hR, ⟨htM, htb⟩, ⟨aC, hkC, hC⟩, ⟨aT, hkT, hT⟩, ⟨co, hkO, hO⟩, ⟨sp, hkS, hS9⟩, lc, eC, nC, mC, cf9, lt, eT, nT, mT, tf, hMo⟩, P, cf, bf, a9, q9, nc, t9, rfl, hSd⟩ := id hJ
  have hWa : zWa g aC 19998 := by rw [show aC = P 1 from Value.ref.inj (hC.symm.trans hSd.1.2.1.1)]; exact (hSd.1.wa hSd.2.2.2.2.2.1).mono2 (by have := hSd.2.2.2.2.1; omega)
  refine lv_aload_n hx hb dL_law_897 rfl (lv_at hl 1 rfl) ?_
  refine lv_aload_n hx hb dL_law_898 rfl (lv_at hl 0 rfl) ?_
  refine lv_iload hx hb dL_law_899 (lv_at hl 5 rfl) ?_
  refine lv_iconst (v := 1) hx hb dL_law_901 (by decide) ?_
  refine lv_iadd hx hb dL_law_902 ?_
  rw [show nI (4 * k) + 1 = nI (4 * k + 1) from nI_add _ _]
  refine va_sld hx hb hX hbl hbA hI.2.1 (vp_in_nI (show 4 * k + 1 < N from by omega) (by omega)) dL_law_903 ?_
  refine lv_aload_n hx hb dL_law_904 rfl (lv_at hl 3 rfl) ?_
  refine z_xi hI (vx_runSX (As := [.ref (P 0), .int (xs (nI (4 * k + 1)).toNatClampNeg), .ref po]) (rest := []) ⟨hx, hb, hml, hown, hts⟩ (c_L_isTripped l hnt D tc z0 _ κ g _ (P 0) hkx (xs (nI (4 * k + 1)).toNatClampNeg) po hko aC hC) (vx_cwSW 3 hts gL_law_L_isTripped rfl rfl rfl (by decide +kernel) ⟨Nat.le_of_ble_eq_true rfl, Nat.le_of_ble_eq_true rfl⟩) (z_pre (Xc := []) hK hE hI [] rfl rfl) rfl rfl hl.1 rfl (lv_room (Nat.le_of_ble_eq_true rfl)) dL_law_905 ⟨(show 60 + 20 * k + 37 * t + 1 ≤ 798071 from by omega), (show 400 + 120 * k + 162 * t + 6 ≤ 6701890 from by omega)⟩) (fun E ce q9 u H locs hw hI he1 he2 he3 => hw.elim) (fun v u H locs hw hI => ?_)
  obtain ⟨L1, κ1, g1⟩ := u
  have hI : zI D tc (zA [] [] s.heap.size) s.heap [] L1 κ1 g1 H locs := hI
  have hJ : zJ κ1 g1 z0 (P 0) pm rq t (k + 1) ∧ κ1 po = 29 ∧ κ1 pd = 30 := by
    rcases hw with ⟨_, r1, u1, v9, hp, hu⟩ | ⟨_, hp⟩
    · cases hu
      have hp9 : u1 = (L, κ, g) := by first | exact hp | exact hp.2 | exact hp.2.2 | exact hp.2.2.2
      cases hp9
      exact ⟨(hJ.up hko (by decide)).more, hko, hkd⟩
    · obtain ⟨_, hp⟩ := hp
      cases hp
      exact ⟨hJ.more, hko, hkd⟩
  obtain ⟨hJ, hko, hkd⟩ := hJ
  clear hw
  obtain ⟨L, rfl⟩ : ∃ x, x = L1 := ⟨_, rfl⟩
  obtain ⟨κ, rfl⟩ : ∃ x, x = κ1 := ⟨_, rfl⟩
  obtain ⟨g, rfl⟩ : ∃ x, x = g1 := ⟨_, rfl⟩
  refine lv_istore (lv' := [(6, .int v), (0, .ref b), (1, .ref (P 0)), (2, .ref pm), (3, .ref po), (4, .ref pd), (5, .int (nI (4 * k)))]) hx hb dL_law_908 hl (by decide) rfl (fun ls hl => ?_)
  refine lv_aload_n hx hb dL_law_910 rfl (lv_at hl 3 rfl) ?_
  refine lv_aload_n hx hb dL_law_911 rfl (lv_at hl 1 rfl) ?_
  refine lv_iload hx hb dL_law_912 (lv_at hl 6 rfl) ?_
  refine lv_iconst (v := 1) hx hb dL_law_914 (by decide) ?_
  refine lv_iadd hx hb dL_law_915 ?_
  rw [show nI (4 * k) + 1 = nI (4 * k + 1) from nI_add _ _]
  refine va_sld hx hb hX hbl hbA hI.2.1 (vp_in_nI (show 4 * k + 1 < N from by omega) (by omega)) dL_law_916 ?_
  obtain ⟨⟨⟨hkx, hkm, hkq⟩, hR, ⟨htM, htb⟩, ⟨aC, hkC, hC⟩, ⟨aT, hkT, hT⟩, ⟨co, hkO, hO⟩, ⟨sp, hkS, hS9⟩, lc, eC, nC, mC, cf9, lt, eT, nT, mT, tf, hMo⟩, -⟩ := id hJ
  refine z_ci hI (va_runV (As := [.int (xs (nI (4 * k + 1)).toNatClampNeg)]) (rest := []) ⟨hx, hb, hml, hown, hts⟩ (c_X11_isTripped l D tc z0 _ κ g _ pm hkm (xs (nI (4 * k + 1)).toNatClampNeg) lc eC nC mC cf9 lt eT nT mT tf hMo ) (cwV 1 hts gL_law_X11_isTripped rfl rfl rfl (by decide +kernel) ⟨Nat.le_of_ble_eq_true rfl, Nat.le_of_ble_eq_true rfl⟩) (z_preV (Xc := []) hK hE hI [] rfl rfl (z_recv hK hI hkm rfl rfl)) rfl rfl hl.1 rfl (lv_room (Nat.le_of_ble_eq_true rfl)) dL_law_917 ⟨(show 60 + 20 * k + 37 * t + 1 + 0 ≤ 798071 from by omega), (show 400 + 120 * k + 162 * t + 6 + 0 ≤ 6701890 from by omega)⟩) (fun w u H locs hw hI => ?_)
  obtain ⟨x9, rfl⟩ := hw
  have hJ := hJ.upM (j := 12) (v := .int x9) (by decide)
  have hI : zI D tc (zA [] [] s.heap.size) s.heap [] L κ (zup g pm 12 (.int x9)) H locs := hI
  generalize (zup g pm 12 (.int x9)) = g at hI hJ
  refine lv_istore (lv' := [(7, .int w), (6, .int v), (0, .ref b), (1, .ref (P 0)), (2, .ref pm), (3, .ref po), (4, .ref pd), (5, .int (nI (4 * k)))]) hx hb dL_law_920 hl (by decide) rfl (fun ls hl => ?_)
  refine lv_goto (tgt := 1364) hx hb dL_law_922 (by decide) ?_
  have hl := lv_sub hl [2, 3, 4, 5, 6, 7] (l' := [(0, .ref b), (1, .ref (P 0)), (2, .ref pm), (3, .ref po), (4, .ref pd), (5, .int (nI (4 * k)))]) rfl
  refine W.widen (k := 60 + 20 * (k + 1) + 37 * t) (n := 400 + 120 * (k + 1) + 162 * t) (by omega) (by omega) ?_
  refine W.base ?_
  exact hN s.drawn L κ g _ _ _ _ (Drawn.sameBut.refl _ _) hJ hko hkd hI hl

set_option maxHeartbeats 4000000 in
set_option maxRecDepth 100000 in
theorem k_fan (l : Launch) (hnt : l.stackTraces = false) {p : Program} {e : Env} {s : State} {m : MethodId} {below : List Frame} {meth : Method} {c : Code} {H : Heap} {locs : List Loc} {Q : State → Prop} {D : va_G} {tc : Nat → ClassId} {z0 b N : Nat} {xs : Nat → Int32} {px pm po pd rq t k : Nat} {L : List Nat} {κ : Nat → Nat} {g : Nat → Nat → Value} {ls : Array Slot} (C : lwC p s m meth c b N xs D tc z0) (hk : 4 * k + 4 ≤ N) (hN8 : N ≤ 2048) (hJ : zJ κ g z0 px pm rq t k) (hko : κ po = 29) (hkd : κ pd = 30) (hI : zI D tc (zA [] [] s.heap.size) s.heap [] L κ g H locs) (hl : lv_has ls 9 [(0, .ref b), (1, .ref px), (2, .ref pm), (3, .ref po), (4, .ref pd), (5, .int (nI (4 * k)))]) (hN : lwN p l e s m below meth c b D tc z0 px pm po pd rq k Q) : W p l e room_1 s m #[Value.ref b] below meth c H locs (60 + 20 * k + 37 * t) (400 + 120 * k + 162 * t) Q (F0 m 925 ls []) := by
  obtain ⟨hx, hb, hml, hown, hts, hK, hE, hX, hbl⟩ := C
  have hbA : ¬ zA [] [] s.heap.size b := fun q => by rcases q with q | q | q; exact absurd q List.not_mem_nil; exact absurd q List.not_mem_nil; exact absurd hbl (Nat.not_lt.mpr q)
  have htb9 : t ≤ 9999 := hJ.1.2.2.1.2
  obtain ⟨⟨⟨hkx, hkm, hkq⟩, hR, ⟨htM, htb⟩, ⟨aC, hkC, hC⟩, ⟨aT, hkT, hT⟩, ⟨co, hkO, hO⟩, ⟨sp, hkS, hS9⟩, lc, eC, nC, mC, cf9, lt, eT, nT, mT, tf, hMo⟩, P, cf, bf, a9, q9, nc, t9, rfl, hSd⟩ := id hJ
  have hWa : zWa g aC 19998 := by rw [show aC = P 1 from Value.ref.inj (hC.symm.trans hSd.1.2.1.1)]; exact (hSd.1.wa hSd.2.2.2.2.2.1).mono2 (by have := hSd.2.2.2.2.1; omega)
  refine lv_aload_n hx hb dL_law_925 rfl (lv_at hl 1 rfl) ?_
  refine z_ci hI (va_runV (As := []) (rest := []) ⟨hx, hb, hml, hown, hts⟩ (c_X8_fan l D tc z0 _ κ g _ (P 0) hkx  ) (cwV 0 hts gL_law_X8_fan rfl rfl rfl (by decide +kernel) ⟨Nat.le_of_ble_eq_true rfl, Nat.le_of_ble_eq_true rfl⟩) (z_preV (Xc := []) hK hE hI [] rfl rfl (z_recv hK hI hkx rfl rfl)) rfl rfl hl.1 rfl (lv_room (Nat.le_of_ble_eq_true rfl)) dL_law_926 ⟨(show 60 + 20 * k + 37 * t + 0 ≤ 798071 from by omega), (show 400 + 120 * k + 162 * t + 0 ≤ 6701890 from by omega)⟩) (fun v u H locs hw hI => ?_)
  have hw9 : u = (L, κ, g) := by first | exact hw | exact hw.2 | exact hw.2.2 | exact hw.2.2.2
  obtain rfl := hw9
  have hJ := hJ.more
  have hI : zI D tc (zA [] [] s.heap.size) s.heap [] L κ g H locs := hI
  refine lv_pop hx hb dL_law_929 rfl ?_
  refine lv_aload_n hx hb dL_law_930 rfl (lv_at hl 2 rfl) ?_
  obtain ⟨⟨⟨hkx, hkm, hkq⟩, hR, ⟨htM, htb⟩, ⟨aC, hkC, hC⟩, ⟨aT, hkT, hT⟩, ⟨co, hkO, hO⟩, ⟨sp, hkS, hS9⟩, lc, eC, nC, mC, cf9, lt, eT, nT, mT, tf, hMo⟩, -⟩ := id hJ
  refine z_ci hI (va_runV (As := []) (rest := []) ⟨hx, hb, hml, hown, hts⟩ (c_X11_fan l D tc z0 _ κ g _ pm hkm   ) (cwV 0 hts gL_law_X11_fan rfl rfl rfl (by decide +kernel) ⟨Nat.le_of_ble_eq_true rfl, Nat.le_of_ble_eq_true rfl⟩) (z_preV (Xc := []) hK hE hI [] rfl rfl (z_recv hK hI hkm rfl rfl)) rfl rfl hl.1 rfl (lv_room (Nat.le_of_ble_eq_true rfl)) dL_law_931 ⟨(show 60 + 20 * k + 37 * t + 0 + 0 ≤ 798071 from by omega), (show 400 + 120 * k + 162 * t + 0 + 0 ≤ 6701890 from by omega)⟩) (fun w u H locs hw hI => ?_)
  obtain ⟨x9, rfl⟩ := hw
  have hJ := hJ.upM (j := 12) (v := .int x9) (by decide)
  have hI : zI D tc (zA [] [] s.heap.size) s.heap [] L κ (zup g pm 12 (.int x9)) H locs := hI
  generalize (zup g pm 12 (.int x9)) = g at hI hJ
  refine lv_pop hx hb dL_law_934 rfl ?_
  refine lv_goto (tgt := 1364) hx hb dL_law_935 (by decide) ?_
  have hl := lv_sub hl [0, 1, 2, 3, 4, 5] (l' := [(0, .ref b), (1, .ref (P 0)), (2, .ref pm), (3, .ref po), (4, .ref pd), (5, .int (nI (4 * k)))]) rfl
  refine W.widen (k := 60 + 20 * (k + 1) + 37 * t) (n := 400 + 120 * (k + 1) + 162 * t) (by omega) (by omega) ?_
  refine W.base ?_
  exact hN s.drawn L κ g _ _ _ _ (Drawn.sameBut.refl _ _) hJ hko hkd hI hl

set_option maxHeartbeats 4000000 in
set_option maxRecDepth 100000 in
theorem k_killFan (l : Launch) (hnt : l.stackTraces = false) {p : Program} {e : Env} {s : State} {m : MethodId} {below : List Frame} {meth : Method} {c : Code} {H : Heap} {locs : List Loc} {Q : State → Prop} {D : va_G} {tc : Nat → ClassId} {z0 b N : Nat} {xs : Nat → Int32} {px pm po pd rq t k : Nat} {L : List Nat} {κ : Nat → Nat} {g : Nat → Nat → Value} {ls : Array Slot} (C : lwC p s m meth c b N xs D tc z0) (hk : 4 * k + 4 ≤ N) (hN8 : N ≤ 2048) (hJ : zJ κ g z0 px pm rq t k) (hko : κ po = 29) (hkd : κ pd = 30) (hI : zI D tc (zA [] [] s.heap.size) s.heap [] L κ g H locs) (hl : lv_has ls 9 [(0, .ref b), (1, .ref px), (2, .ref pm), (3, .ref po), (4, .ref pd), (5, .int (nI (4 * k)))]) (hN : lwN p l e s m below meth c b D tc z0 px pm po pd rq k Q) : W p l e room_1 s m #[Value.ref b] below meth c H locs (60 + 20 * k + 37 * t) (400 + 120 * k + 162 * t) Q (F0 m 938 ls []) := by
  obtain ⟨hx, hb, hml, hown, hts, hK, hE, hX, hbl⟩ := C
  have hbA : ¬ zA [] [] s.heap.size b := fun q => by rcases q with q | q | q; exact absurd q List.not_mem_nil; exact absurd q List.not_mem_nil; exact absurd hbl (Nat.not_lt.mpr q)
  have htb9 : t ≤ 9999 := hJ.1.2.2.1.2
  obtain ⟨⟨⟨hkx, hkm, hkq⟩, hR, ⟨htM, htb⟩, ⟨aC, hkC, hC⟩, ⟨aT, hkT, hT⟩, ⟨co, hkO, hO⟩, ⟨sp, hkS, hS9⟩, lc, eC, nC, mC, cf9, lt, eT, nT, mT, tf, hMo⟩, P, cf, bf, a9, q9, nc, t9, rfl, hSd⟩ := id hJ
  have hWa : zWa g aC 19998 := by rw [show aC = P 1 from Value.ref.inj (hC.symm.trans hSd.1.2.1.1)]; exact (hSd.1.wa hSd.2.2.2.2.2.1).mono2 (by have := hSd.2.2.2.2.1; omega)
  refine lv_aload_n hx hb dL_law_938 rfl (lv_at hl 1 rfl) ?_
  refine lv_aload_n hx hb dL_law_939 rfl (lv_at hl 0 rfl) ?_
  refine lv_iload hx hb dL_law_940 (lv_at hl 5 rfl) ?_
  refine lv_iconst (v := 1) hx hb dL_law_942 (by decide) ?_
  refine lv_iadd hx hb dL_law_943 ?_
  rw [show nI (4 * k) + 1 = nI (4 * k + 1) from nI_add _ _]
  refine va_sld hx hb hX hbl hbA hI.2.1 (vp_in_nI (show 4 * k + 1 < N from by omega) (by omega)) dL_law_944 ?_
  refine lv_if_eq (tgt := 952) hx hb dL_law_945 (by decide) (fun _ => ?_) (fun _ => ?_)
  · skip
    refine lv_iconst (v := 0) hx hb dL_law_952 (by decide) ?_
    refine z_ci hI (va_runV (As := [.int 0]) (rest := []) ⟨hx, hb, hml, hown, hts⟩ (c_X8_killFan l D tc z0 _ κ g _ (P 0) hkx 0 (Or.inl rfl) ) (cwV 1 hts gL_law_X8_killFan rfl rfl rfl (by decide +kernel) ⟨Nat.le_of_ble_eq_true rfl, Nat.le_of_ble_eq_true rfl⟩) (z_preV (Xc := []) hK hE hI [] rfl rfl (z_recv hK hI hkx rfl rfl)) rfl rfl hl.1 rfl (lv_room (Nat.le_of_ble_eq_true rfl)) dL_law_953 ⟨(show 60 + 20 * k + 37 * t + 0 ≤ 798071 from by omega), (show 400 + 120 * k + 162 * t + 0 ≤ 6701890 from by omega)⟩) (fun v u H locs hw hI => ?_)
    have hw9 : u = (L, κ, g) := by first | exact hw | exact hw.2 | exact hw.2.2 | exact hw.2.2.2
    obtain rfl := hw9
    have hJ := hJ.more
    have hI : zI D tc (zA [] [] s.heap.size) s.heap [] L κ g H locs := hI
    refine lv_pop hx hb dL_law_956 rfl ?_
    refine lv_aload_n hx hb dL_law_957 rfl (lv_at hl 2 rfl) ?_
    refine lv_aload_n hx hb dL_law_958 rfl (lv_at hl 0 rfl) ?_
    refine lv_iload hx hb dL_law_959 (lv_at hl 5 rfl) ?_
    refine lv_iconst (v := 1) hx hb dL_law_961 (by decide) ?_
    refine lv_iadd hx hb dL_law_962 ?_
    rw [show nI (4 * k) + 1 = nI (4 * k + 1) from nI_add _ _]
    refine va_sld hx hb hX hbl hbA hI.2.1 (vp_in_nI (show 4 * k + 1 < N from by omega) (by omega)) dL_law_963 ?_
    refine lv_if_eq (tgt := 971) hx hb dL_law_964 (by decide) (fun _ => ?_) (fun _ => ?_)
    · skip
      refine lv_iconst (v := 0) hx hb dL_law_971 (by decide) ?_
      obtain ⟨⟨⟨hkx, hkm, hkq⟩, hR, ⟨htM, htb⟩, ⟨aC, hkC, hC⟩, ⟨aT, hkT, hT⟩, ⟨co, hkO, hO⟩, ⟨sp, hkS, hS9⟩, lc, eC, nC, mC, cf9, lt, eT, nT, mT, tf, hMo⟩, -⟩ := id hJ
      refine z_ci hI (va_runV (As := [.int 0]) (rest := []) ⟨hx, hb, hml, hown, hts⟩ (c_X11_killFan l D tc z0 _ κ g _ pm hkm 0 (Or.inl rfl)  ) (cwV 1 hts gL_law_X11_killFan rfl rfl rfl (by decide +kernel) ⟨Nat.le_of_ble_eq_true rfl, Nat.le_of_ble_eq_true rfl⟩) (z_preV (Xc := []) hK hE hI [] rfl rfl (z_recv hK hI hkm rfl rfl)) rfl rfl hl.1 rfl (lv_room (Nat.le_of_ble_eq_true rfl)) dL_law_972 ⟨(show 60 + 20 * k + 37 * t + 0 + 0 ≤ 798071 from by omega), (show 400 + 120 * k + 162 * t + 0 + 0 ≤ 6701890 from by omega)⟩) (fun w u H locs hw hI => ?_)
      obtain ⟨-, -, rfl⟩ := hw
      have hJ := (hJ.upM (j := 12) (v := .int 0) (by decide)).upM (j := 25) (v := .int 0) (by decide)
      have hI : zI D tc (zA [] [] s.heap.size) s.heap [] L κ (zup (zup g pm 12 (.int 0)) pm 25 (.int 0)) H locs := hI
      generalize (zup (zup g pm 12 (.int 0)) pm 25 (.int 0)) = g at hI hJ
      refine lv_pop hx hb dL_law_975 rfl ?_
      refine lv_goto (tgt := 1364) hx hb dL_law_976 (by decide) ?_
      have hl := lv_sub hl [0, 1, 2, 3, 4, 5] (l' := [(0, .ref b), (1, .ref (P 0)), (2, .ref pm), (3, .ref po), (4, .ref pd), (5, .int (nI (4 * k)))]) rfl
      refine W.widen (k := 60 + 20 * (k + 1) + 37 * t) (n := 400 + 120 * (k + 1) + 162 * t) (by omega) (by omega) ?_
      refine W.base ?_
      exact hN s.drawn L κ g _ _ _ _ (Drawn.sameBut.refl _ _) hJ hko hkd hI hl
    · skip
      refine lv_iconst (v := 1) hx hb dL_law_967 (by decide) ?_
      refine lv_goto (tgt := 972) hx hb dL_law_968 (by decide) ?_
      obtain ⟨⟨⟨hkx, hkm, hkq⟩, hR, ⟨htM, htb⟩, ⟨aC, hkC, hC⟩, ⟨aT, hkT, hT⟩, ⟨co, hkO, hO⟩, ⟨sp, hkS, hS9⟩, lc, eC, nC, mC, cf9, lt, eT, nT, mT, tf, hMo⟩, -⟩ := id hJ
      refine z_ci hI (va_runV (As := [.int 1]) (rest := []) ⟨hx, hb, hml, hown, hts⟩ (c_X11_killFan l D tc z0 _ κ g _ pm hkm 1 (Or.inr rfl)  ) (cwV 1 hts gL_law_X11_killFan rfl rfl rfl (by decide +kernel) ⟨Nat.le_of_ble_eq_true rfl, Nat.le_of_ble_eq_true rfl⟩) (z_preV (Xc := []) hK hE hI [] rfl rfl (z_recv hK hI hkm rfl rfl)) rfl rfl hl.1 rfl (lv_room (Nat.le_of_ble_eq_true rfl)) dL_law_972 ⟨(show 60 + 20 * k + 37 * t + 0 + 0 ≤ 798071 from by omega), (show 400 + 120 * k + 162 * t + 0 + 0 ≤ 6701890 from by omega)⟩) (fun w u H locs hw hI => ?_)
      obtain ⟨-, -, rfl⟩ := hw
      have hJ := (hJ.upM (j := 12) (v := .int 0) (by decide)).upM (j := 25) (v := .int 1) (by decide)
      have hI : zI D tc (zA [] [] s.heap.size) s.heap [] L κ (zup (zup g pm 12 (.int 0)) pm 25 (.int 1)) H locs := hI
      generalize (zup (zup g pm 12 (.int 0)) pm 25 (.int 1)) = g at hI hJ
      refine lv_pop hx hb dL_law_975 rfl ?_
      refine lv_goto (tgt := 1364) hx hb dL_law_976 (by decide) ?_
      have hl := lv_sub hl [0, 1, 2, 3, 4, 5] (l' := [(0, .ref b), (1, .ref (P 0)), (2, .ref pm), (3, .ref po), (4, .ref pd), (5, .int (nI (4 * k)))]) rfl
      refine W.widen (k := 60 + 20 * (k + 1) + 37 * t) (n := 400 + 120 * (k + 1) + 162 * t) (by omega) (by omega) ?_
      refine W.base ?_
      exact hN s.drawn L κ g _ _ _ _ (Drawn.sameBut.refl _ _) hJ hko hkd hI hl
  · skip
    refine lv_iconst (v := 1) hx hb dL_law_948 (by decide) ?_
    refine lv_goto (tgt := 953) hx hb dL_law_949 (by decide) ?_
    refine z_ci hI (va_runV (As := [.int 1]) (rest := []) ⟨hx, hb, hml, hown, hts⟩ (c_X8_killFan l D tc z0 _ κ g _ (P 0) hkx 1 (Or.inr rfl) ) (cwV 1 hts gL_law_X8_killFan rfl rfl rfl (by decide +kernel) ⟨Nat.le_of_ble_eq_true rfl, Nat.le_of_ble_eq_true rfl⟩) (z_preV (Xc := []) hK hE hI [] rfl rfl (z_recv hK hI hkx rfl rfl)) rfl rfl hl.1 rfl (lv_room (Nat.le_of_ble_eq_true rfl)) dL_law_953 ⟨(show 60 + 20 * k + 37 * t + 0 ≤ 798071 from by omega), (show 400 + 120 * k + 162 * t + 0 ≤ 6701890 from by omega)⟩) (fun v u H locs hw hI => ?_)
    have hw9 : u = (L, κ, g) := by first | exact hw | exact hw.2 | exact hw.2.2 | exact hw.2.2.2
    obtain rfl := hw9
    have hJ := hJ.more
    have hI : zI D tc (zA [] [] s.heap.size) s.heap [] L κ g H locs := hI
    refine lv_pop hx hb dL_law_956 rfl ?_
    refine lv_aload_n hx hb dL_law_957 rfl (lv_at hl 2 rfl) ?_
    refine lv_aload_n hx hb dL_law_958 rfl (lv_at hl 0 rfl) ?_
    refine lv_iload hx hb dL_law_959 (lv_at hl 5 rfl) ?_
    refine lv_iconst (v := 1) hx hb dL_law_961 (by decide) ?_
    refine lv_iadd hx hb dL_law_962 ?_
    rw [show nI (4 * k) + 1 = nI (4 * k + 1) from nI_add _ _]
    refine va_sld hx hb hX hbl hbA hI.2.1 (vp_in_nI (show 4 * k + 1 < N from by omega) (by omega)) dL_law_963 ?_
    refine lv_if_eq (tgt := 971) hx hb dL_law_964 (by decide) (fun _ => ?_) (fun _ => ?_)
    · skip
      refine lv_iconst (v := 0) hx hb dL_law_971 (by decide) ?_
      obtain ⟨⟨⟨hkx, hkm, hkq⟩, hR, ⟨htM, htb⟩, ⟨aC, hkC, hC⟩, ⟨aT, hkT, hT⟩, ⟨co, hkO, hO⟩, ⟨sp, hkS, hS9⟩, lc, eC, nC, mC, cf9, lt, eT, nT, mT, tf, hMo⟩, -⟩ := id hJ
      refine z_ci hI (va_runV (As := [.int 0]) (rest := []) ⟨hx, hb, hml, hown, hts⟩ (c_X11_killFan l D tc z0 _ κ g _ pm hkm 0 (Or.inl rfl)  ) (cwV 1 hts gL_law_X11_killFan rfl rfl rfl (by decide +kernel) ⟨Nat.le_of_ble_eq_true rfl, Nat.le_of_ble_eq_true rfl⟩) (z_preV (Xc := []) hK hE hI [] rfl rfl (z_recv hK hI hkm rfl rfl)) rfl rfl hl.1 rfl (lv_room (Nat.le_of_ble_eq_true rfl)) dL_law_972 ⟨(show 60 + 20 * k + 37 * t + 0 + 0 ≤ 798071 from by omega), (show 400 + 120 * k + 162 * t + 0 + 0 ≤ 6701890 from by omega)⟩) (fun w u H locs hw hI => ?_)
      obtain ⟨-, -, rfl⟩ := hw
      have hJ := (hJ.upM (j := 12) (v := .int 0) (by decide)).upM (j := 25) (v := .int 0) (by decide)
      have hI : zI D tc (zA [] [] s.heap.size) s.heap [] L κ (zup (zup g pm 12 (.int 0)) pm 25 (.int 0)) H locs := hI
      generalize (zup (zup g pm 12 (.int 0)) pm 25 (.int 0)) = g at hI hJ
      refine lv_pop hx hb dL_law_975 rfl ?_
      refine lv_goto (tgt := 1364) hx hb dL_law_976 (by decide) ?_
      have hl := lv_sub hl [0, 1, 2, 3, 4, 5] (l' := [(0, .ref b), (1, .ref (P 0)), (2, .ref pm), (3, .ref po), (4, .ref pd), (5, .int (nI (4 * k)))]) rfl
      refine W.widen (k := 60 + 20 * (k + 1) + 37 * t) (n := 400 + 120 * (k + 1) + 162 * t) (by omega) (by omega) ?_
      refine W.base ?_
      exact hN s.drawn L κ g _ _ _ _ (Drawn.sameBut.refl _ _) hJ hko hkd hI hl
    · skip
      refine lv_iconst (v := 1) hx hb dL_law_967 (by decide) ?_
      refine lv_goto (tgt := 972) hx hb dL_law_968 (by decide) ?_
      obtain ⟨⟨⟨hkx, hkm, hkq⟩, hR, ⟨htM, htb⟩, ⟨aC, hkC, hC⟩, ⟨aT, hkT, hT⟩, ⟨co, hkO, hO⟩, ⟨sp, hkS, hS9⟩, lc, eC, nC, mC, cf9, lt, eT, nT, mT, tf, hMo⟩, -⟩ := id hJ
      refine z_ci hI (va_runV (As := [.int 1]) (rest := []) ⟨hx, hb, hml, hown, hts⟩ (c_X11_killFan l D tc z0 _ κ g _ pm hkm 1 (Or.inr rfl)  ) (cwV 1 hts gL_law_X11_killFan rfl rfl rfl (by decide +kernel) ⟨Nat.le_of_ble_eq_true rfl, Nat.le_of_ble_eq_true rfl⟩) (z_preV (Xc := []) hK hE hI [] rfl rfl (z_recv hK hI hkm rfl rfl)) rfl rfl hl.1 rfl (lv_room (Nat.le_of_ble_eq_true rfl)) dL_law_972 ⟨(show 60 + 20 * k + 37 * t + 0 + 0 ≤ 798071 from by omega), (show 400 + 120 * k + 162 * t + 0 + 0 ≤ 6701890 from by omega)⟩) (fun w u H locs hw hI => ?_)
      obtain ⟨-, -, rfl⟩ := hw
      have hJ := (hJ.upM (j := 12) (v := .int 0) (by decide)).upM (j := 25) (v := .int 1) (by decide)
      have hI : zI D tc (zA [] [] s.heap.size) s.heap [] L κ (zup (zup g pm 12 (.int 0)) pm 25 (.int 1)) H locs := hI
      generalize (zup (zup g pm 12 (.int 0)) pm 25 (.int 1)) = g at hI hJ
      refine lv_pop hx hb dL_law_975 rfl ?_
      refine lv_goto (tgt := 1364) hx hb dL_law_976 (by decide) ?_
      have hl := lv_sub hl [0, 1, 2, 3, 4, 5] (l' := [(0, .ref b), (1, .ref (P 0)), (2, .ref pm), (3, .ref po), (4, .ref pd), (5, .int (nI (4 * k)))]) rfl
      refine W.widen (k := 60 + 20 * (k + 1) + 37 * t) (n := 400 + 120 * (k + 1) + 162 * t) (by omega) (by omega) ?_
      refine W.base ?_
      exact hN s.drawn L κ g _ _ _ _ (Drawn.sameBut.refl _ _) hJ hko hkd hI hl

set_option maxHeartbeats 4000000 in
set_option maxRecDepth 100000 in
theorem k_heatUp (l : Launch) (hnt : l.stackTraces = false) {p : Program} {e : Env} {s : State} {m : MethodId} {below : List Frame} {meth : Method} {c : Code} {H : Heap} {locs : List Loc} {Q : State → Prop} {D : va_G} {tc : Nat → ClassId} {z0 b N : Nat} {xs : Nat → Int32} {px pm po pd rq t k : Nat} {L : List Nat} {κ : Nat → Nat} {g : Nat → Nat → Value} {ls : Array Slot} (C : lwC p s m meth c b N xs D tc z0) (hk : 4 * k + 4 ≤ N) (hN8 : N ≤ 2048) (hJ : zJ κ g z0 px pm rq t k) (hko : κ po = 29) (hkd : κ pd = 30) (hI : zI D tc (zA [] [] s.heap.size) s.heap [] L κ g H locs) (hl : lv_has ls 9 [(0, .ref b), (1, .ref px), (2, .ref pm), (3, .ref po), (4, .ref pd), (5, .int (nI (4 * k)))]) (hN : lwN p l e s m below meth c b D tc z0 px pm po pd rq k Q) : W p l e room_1 s m #[Value.ref b] below meth c H locs (60 + 20 * k + 37 * t) (400 + 120 * k + 162 * t) Q (F0 m 979 ls []) := by
  obtain ⟨hx, hb, hml, hown, hts, hK, hE, hX, hbl⟩ := C
  have hbA : ¬ zA [] [] s.heap.size b := fun q => by rcases q with q | q | q; exact absurd q List.not_mem_nil; exact absurd q List.not_mem_nil; exact absurd hbl (Nat.not_lt.mpr q)
  have htb9 : t ≤ 9999 := hJ.1.2.2.1.2
  obtain ⟨⟨⟨hkx, hkm, hkq⟩, hR, ⟨htM, htb⟩, ⟨aC, hkC, hC⟩, ⟨aT, hkT, hT⟩, ⟨co, hkO, hO⟩, ⟨sp, hkS, hS9⟩, lc, eC, nC, mC, cf9, lt, eT, nT, mT, tf, hMo⟩, P, cf, bf, a9, q9, nc, t9, rfl, hSd⟩ := id hJ
  have hWa : zWa g aC 19998 := by rw [show aC = P 1 from Value.ref.inj (hC.symm.trans hSd.1.2.1.1)]; exact (hSd.1.wa hSd.2.2.2.2.2.1).mono2 (by have := hSd.2.2.2.2.1; omega)
  refine lv_aload_n hx hb dL_law_979 rfl (lv_at hl 1 rfl) ?_
  refine lv_aload_n hx hb dL_law_980 rfl (lv_at hl 0 rfl) ?_
  refine lv_iload hx hb dL_law_981 (lv_at hl 5 rfl) ?_
  refine lv_iconst (v := 1) hx hb dL_law_983 (by decide) ?_
  refine lv_iadd hx hb dL_law_984 ?_
  rw [show nI (4 * k) + 1 = nI (4 * k + 1) from nI_add _ _]
  refine va_sld hx hb hX hbl hbA hI.2.1 (vp_in_nI (show 4 * k + 1 < N from by omega) (by omega)) dL_law_985 ?_
  refine lv_aload_n hx hb dL_law_986 rfl (lv_at hl 0 rfl) ?_
  refine lv_iload hx hb dL_law_987 (lv_at hl 5 rfl) ?_
  refine lv_iconst (v := 2) hx hb dL_law_989 (by decide) ?_
  refine lv_iadd hx hb dL_law_990 ?_
  rw [show nI (4 * k) + 2 = nI (4 * k + 2) from nI_add _ _]
  refine va_sld hx hb hX hbl hbA hI.2.1 (vp_in_nI (show 4 * k + 2 < N from by omega) (by omega)) dL_law_991 ?_
  refine lv_aload_n hx hb dL_law_992 rfl (lv_at hl 3 rfl) ?_
  refine z_xi hI (vx_runSX (As := [.ref (P 0), .int (xs (nI (4 * k + 1)).toNatClampNeg), .int (xs (nI (4 * k + 2)).toNatClampNeg), .ref po]) (rest := []) ⟨hx, hb, hml, hown, hts⟩ (c_L_heatUp l hnt D tc z0 _ κ g _ P hkx (xs (nI (4 * k + 1)).toNatClampNeg) (xs (nI (4 * k + 2)).toNatClampNeg) po hko cf bf a9 q9 nc t9 k hSd (by omega)) (vx_cwSW 4 hts gL_law_L_heatUp rfl rfl rfl (by decide +kernel) ⟨Nat.le_of_ble_eq_true rfl, Nat.le_of_ble_eq_true rfl⟩) (z_pre (Xc := []) hK hE hI [] rfl rfl) rfl rfl hl.1 rfl (lv_room (Nat.le_of_ble_eq_true rfl)) dL_law_993 ⟨(show 60 + 20 * k + 37 * t + 2 ≤ 798071 from by omega), (show 400 + 120 * k + 162 * t + 12 ≤ 6701890 from by omega)⟩) (fun E ce q9 u H locs hw hI he1 he2 he3 => hw.elim) (fun v u H locs hw hI => ?_)
  obtain ⟨L1, κ1, g1⟩ := u
  have hI : zI D tc (zA [] [] s.heap.size) s.heap [] L1 κ1 g1 H locs := hI
  have hJ : zJ κ1 g1 z0 (P 0) pm rq t (k + 1) ∧ κ1 po = 29 ∧ κ1 pd = 30 := by
    rcases hw with ⟨_, r1, u1, v9, hp, hu⟩ | ⟨_, hp⟩ | ⟨_, hp⟩ | ⟨_, hp⟩
    · cases hu
      obtain ⟨g9, h8, hS8, ho8⟩ := hp
      obtain ⟨L9, κ9, g8⟩ := u1
      cases h8
      exact ⟨(zJ.mk (hJ.1.out ho8) hS8).up hko (by decide), hko, hkd⟩
    · obtain ⟨_, hp⟩ := hp
      cases hp
      exact ⟨hJ.more, hko, hkd⟩
    · obtain ⟨_, hp⟩ := hp
      cases hp
      exact ⟨hJ.more, hko, hkd⟩
    · obtain ⟨_, hp⟩ := hp
      cases hp
      exact ⟨hJ.more, hko, hkd⟩
  obtain ⟨hJ, hko, hkd⟩ := hJ
  clear hw
  obtain ⟨L, rfl⟩ : ∃ x, x = L1 := ⟨_, rfl⟩
  obtain ⟨κ, rfl⟩ : ∃ x, x = κ1 := ⟨_, rfl⟩
  obtain ⟨g, rfl⟩ : ∃ x, x = g1 := ⟨_, rfl⟩
  refine lv_istore (lv' := [(6, .int v), (0, .ref b), (1, .ref (P 0)), (2, .ref pm), (3, .ref po), (4, .ref pd), (5, .int (nI (4 * k)))]) hx hb dL_law_996 hl (by decide) rfl (fun ls hl => ?_)
  refine lv_aload_n hx hb dL_law_998 rfl (lv_at hl 3 rfl) ?_
  refine lv_aload_n hx hb dL_law_999 rfl (lv_at hl 1 rfl) ?_
  refine lv_iload hx hb dL_law_1000 (lv_at hl 6 rfl) ?_
  refine lv_iconst (v := 1) hx hb dL_law_1002 (by decide) ?_
  refine lv_iadd hx hb dL_law_1003 ?_
  rw [show nI (4 * k) + 1 = nI (4 * k + 1) from nI_add _ _]
  refine va_sld hx hb hX hbl hbA hI.2.1 (vp_in_nI (show 4 * k + 1 < N from by omega) (by omega)) dL_law_1004 ?_
  refine lv_aload_n hx hb dL_law_1005 rfl (lv_at hl 1 rfl) ?_
  refine lv_iload hx hb dL_law_1006 (lv_at hl 6 rfl) ?_
  refine lv_iconst (v := 2) hx hb dL_law_1008 (by decide) ?_
  refine lv_iadd hx hb dL_law_1009 ?_
  rw [show nI (4 * k) + 2 = nI (4 * k + 2) from nI_add _ _]
  refine va_sld hx hb hX hbl hbA hI.2.1 (vp_in_nI (show 4 * k + 2 < N from by omega) (by omega)) dL_law_1010 ?_
  obtain ⟨⟨⟨hkx, hkm, hkq⟩, hR, ⟨htM, htb⟩, ⟨aC, hkC, hC⟩, ⟨aT, hkT, hT⟩, ⟨co, hkO, hO⟩, ⟨sp, hkS, hS9⟩, lc, eC, nC, mC, cf9, lt, eT, nT, mT, tf, hMo⟩, -⟩ := id hJ
  refine z_ci hI (va_runV (As := [.int (xs (nI (4 * k + 1)).toNatClampNeg), .int (xs (nI (4 * k + 2)).toNatClampNeg)]) (rest := []) ⟨hx, hb, hml, hown, hts⟩ (c_X11_heatUp l D tc z0 _ κ g _ pm hkm (xs (nI (4 * k + 1)).toNatClampNeg) (xs (nI (4 * k + 2)).toNatClampNeg) lc eC nC mC cf9 lt eT nT mT tf hMo ) (cwV 2 hts gL_law_X11_heatUp rfl rfl rfl (by decide +kernel) ⟨Nat.le_of_ble_eq_true rfl, Nat.le_of_ble_eq_true rfl⟩) (z_preV (Xc := []) hK hE hI [] rfl rfl (z_recv hK hI hkm rfl rfl)) rfl rfl hl.1 rfl (lv_room (Nat.le_of_ble_eq_true rfl)) dL_law_1011 ⟨(show 60 + 20 * k + 37 * t + 2 + 0 ≤ 798071 from by omega), (show 400 + 120 * k + 162 * t + 12 + 0 ≤ 6701890 from by omega)⟩) (fun w u H locs hw hI => ?_)
  obtain ⟨x9, rfl⟩ := hw
  have hJ := hJ.upM (j := 12) (v := .int x9) (by decide)
  have hI : zI D tc (zA [] [] s.heap.size) s.heap [] L κ (zup g pm 12 (.int x9)) H locs := hI
  generalize (zup g pm 12 (.int x9)) = g at hI hJ
  refine lv_istore (lv' := [(7, .int w), (6, .int v), (0, .ref b), (1, .ref (P 0)), (2, .ref pm), (3, .ref po), (4, .ref pd), (5, .int (nI (4 * k)))]) hx hb dL_law_1014 hl (by decide) rfl (fun ls hl => ?_)
  refine lv_goto (tgt := 1364) hx hb dL_law_1016 (by decide) ?_
  have hl := lv_sub hl [2, 3, 4, 5, 6, 7] (l' := [(0, .ref b), (1, .ref (P 0)), (2, .ref pm), (3, .ref po), (4, .ref pd), (5, .int (nI (4 * k)))]) rfl
  refine W.widen (k := 60 + 20 * (k + 1) + 37 * t) (n := 400 + 120 * (k + 1) + 162 * t) (by omega) (by omega) ?_
  refine W.base ?_
  exact hN s.drawn L κ g _ _ _ _ (Drawn.sameBut.refl _ _) hJ hko hkd hI hl

set_option maxHeartbeats 4000000 in
set_option maxRecDepth 100000 in
theorem k_wall (l : Launch) (hnt : l.stackTraces = false) {p : Program} {e : Env} {s : State} {m : MethodId} {below : List Frame} {meth : Method} {c : Code} {H : Heap} {locs : List Loc} {Q : State → Prop} {D : va_G} {tc : Nat → ClassId} {z0 b N : Nat} {xs : Nat → Int32} {px pm po pd rq t k : Nat} {L : List Nat} {κ : Nat → Nat} {g : Nat → Nat → Value} {ls : Array Slot} (C : lwC p s m meth c b N xs D tc z0) (hk : 4 * k + 4 ≤ N) (hN8 : N ≤ 2048) (hJ : zJ κ g z0 px pm rq t k) (hko : κ po = 29) (hkd : κ pd = 30) (hI : zI D tc (zA [] [] s.heap.size) s.heap [] L κ g H locs) (hl : lv_has ls 9 [(0, .ref b), (1, .ref px), (2, .ref pm), (3, .ref po), (4, .ref pd), (5, .int (nI (4 * k)))]) (hN : lwN p l e s m below meth c b D tc z0 px pm po pd rq k Q) : W p l e room_1 s m #[Value.ref b] below meth c H locs (60 + 20 * k + 37 * t) (400 + 120 * k + 162 * t) Q (F0 m 1019 ls []) := by
  obtain ⟨hx, hb, hml, hown, hts, hK, hE, hX, hbl⟩ := C
  have hbA : ¬ zA [] [] s.heap.size b := fun q => by rcases q with q | q | q; exact absurd q List.not_mem_nil; exact absurd q List.not_mem_nil; exact absurd hbl (Nat.not_lt.mpr q)
  have htb9 : t ≤ 9999 := hJ.1.2.2.1.2
  obtain ⟨⟨⟨hkx, hkm, hkq⟩, hR, ⟨htM, htb⟩, ⟨aC, hkC, hC⟩, ⟨aT, hkT, hT⟩, ⟨co, hkO, hO⟩, ⟨sp, hkS, hS9⟩, lc, eC, nC, mC, cf9, lt, eT, nT, mT, tf, hMo⟩, P, cf, bf, a9, q9, nc, t9, rfl, hSd⟩ := id hJ
  have hWa : zWa g aC 19998 := by rw [show aC = P 1 from Value.ref.inj (hC.symm.trans hSd.1.2.1.1)]; exact (hSd.1.wa hSd.2.2.2.2.2.1).mono2 (by have := hSd.2.2.2.2.1; omega)
  refine lv_aload_n hx hb dL_law_1019 rfl (lv_at hl 1 rfl) ?_
  refine lv_aload_n hx hb dL_law_1020 rfl (lv_at hl 0 rfl) ?_
  refine lv_iload hx hb dL_law_1021 (lv_at hl 5 rfl) ?_
  refine lv_iconst (v := 1) hx hb dL_law_1023 (by decide) ?_
  refine lv_iadd hx hb dL_law_1024 ?_
  rw [show nI (4 * k) + 1 = nI (4 * k + 1) from nI_add _ _]
  refine va_sld hx hb hX hbl hbA hI.2.1 (vp_in_nI (show 4 * k + 1 < N from by omega) (by omega)) dL_law_1025 ?_
  refine lv_aload_n hx hb dL_law_1026 rfl (lv_at hl 3 rfl) ?_
  refine z_xi hI (vx_runSX (As := [.ref (P 0), .int (xs (nI (4 * k + 1)).toNatClampNeg), .ref po]) (rest := []) ⟨hx, hb, hml, hown, hts⟩ (c_L_wall l hnt D tc z0 _ κ g _ (P 0) hkx (xs (nI (4 * k + 1)).toNatClampNeg) po hko ) (vx_cwSW 3 hts gL_law_L_wall rfl rfl rfl (by decide +kernel) ⟨Nat.le_of_ble_eq_true rfl, Nat.le_of_ble_eq_true rfl⟩) (z_pre (Xc := []) hK hE hI [] rfl rfl) rfl rfl hl.1 rfl (lv_room (Nat.le_of_ble_eq_true rfl)) dL_law_1027 ⟨(show 60 + 20 * k + 37 * t + 1 ≤ 798071 from by omega), (show 400 + 120 * k + 162 * t + 6 ≤ 6701890 from by omega)⟩) (fun E ce q9 u H locs hw hI he1 he2 he3 => hw.elim) (fun v u H locs hw hI => ?_)
  obtain ⟨L1, κ1, g1⟩ := u
  have hI : zI D tc (zA [] [] s.heap.size) s.heap [] L1 κ1 g1 H locs := hI
  have hJ : zJ κ1 g1 z0 (P 0) pm rq t (k + 1) ∧ κ1 po = 29 ∧ κ1 pd = 30 := by
    rcases hw with ⟨_, r1, u1, v9, hp, hu⟩ | ⟨_, hp⟩
    · cases hu
      have hp9 : u1 = (L, κ, g) := by first | exact hp | exact hp.2 | exact hp.2.2 | exact hp.2.2.2
      cases hp9
      exact ⟨(hJ.up hko (by decide)).more, hko, hkd⟩
    · obtain ⟨_, hp⟩ := hp
      cases hp
      exact ⟨hJ.more, hko, hkd⟩
  obtain ⟨hJ, hko, hkd⟩ := hJ
  clear hw
  obtain ⟨L, rfl⟩ : ∃ x, x = L1 := ⟨_, rfl⟩
  obtain ⟨κ, rfl⟩ : ∃ x, x = κ1 := ⟨_, rfl⟩
  obtain ⟨g, rfl⟩ : ∃ x, x = g1 := ⟨_, rfl⟩
  refine lv_istore (lv' := [(6, .int v), (0, .ref b), (1, .ref (P 0)), (2, .ref pm), (3, .ref po), (4, .ref pd), (5, .int (nI (4 * k)))]) hx hb dL_law_1030 hl (by decide) rfl (fun ls hl => ?_)
  refine lv_aload_n hx hb dL_law_1032 rfl (lv_at hl 3 rfl) ?_
  refine lv_aload_n hx hb dL_law_1033 rfl (lv_at hl 1 rfl) ?_
  refine lv_iload hx hb dL_law_1034 (lv_at hl 6 rfl) ?_
  refine lv_iconst (v := 1) hx hb dL_law_1036 (by decide) ?_
  refine lv_iadd hx hb dL_law_1037 ?_
  rw [show nI (4 * k) + 1 = nI (4 * k + 1) from nI_add _ _]
  refine va_sld hx hb hX hbl hbA hI.2.1 (vp_in_nI (show 4 * k + 1 < N from by omega) (by omega)) dL_law_1038 ?_
  obtain ⟨⟨⟨hkx, hkm, hkq⟩, hR, ⟨htM, htb⟩, ⟨aC, hkC, hC⟩, ⟨aT, hkT, hT⟩, ⟨co, hkO, hO⟩, ⟨sp, hkS, hS9⟩, lc, eC, nC, mC, cf9, lt, eT, nT, mT, tf, hMo⟩, -⟩ := id hJ
  refine z_ci hI (va_runV (As := [.int (xs (nI (4 * k + 1)).toNatClampNeg)]) (rest := []) ⟨hx, hb, hml, hown, hts⟩ (c_X11_wall l D tc z0 _ κ g _ pm hkm (xs (nI (4 * k + 1)).toNatClampNeg)  ) (cwV 1 hts gL_law_X11_wall rfl rfl rfl (by decide +kernel) ⟨Nat.le_of_ble_eq_true rfl, Nat.le_of_ble_eq_true rfl⟩) (z_preV (Xc := []) hK hE hI [] rfl rfl (z_recv hK hI hkm rfl rfl)) rfl rfl hl.1 rfl (lv_room (Nat.le_of_ble_eq_true rfl)) dL_law_1039 ⟨(show 60 + 20 * k + 37 * t + 1 + 0 ≤ 798071 from by omega), (show 400 + 120 * k + 162 * t + 6 + 0 ≤ 6701890 from by omega)⟩) (fun w u H locs hw hI => ?_)
  obtain ⟨L1, κ1, g1⟩ := u
  have hI : zI D tc (zA [] [] s.heap.size) s.heap [] L1 κ1 g1 H locs := hI
  have hJ : zJ κ1 g1 z0 (P 0) pm rq t (k + 1) ∧ κ1 po = 29 ∧ κ1 pd = 30 := by
    rcases hw with ⟨_, _, hu⟩ | ⟨_, _, hu⟩
    · cases hu
      exact ⟨hJ.upM (by decide), hko, hkd⟩
    · cases hu
      exact ⟨(hJ.upM (by decide)).upM (by decide), hko, hkd⟩
  obtain ⟨hJ, hko, hkd⟩ := hJ
  obtain ⟨L, rfl⟩ : ∃ x, x = L1 := ⟨_, rfl⟩
  obtain ⟨κ, rfl⟩ : ∃ x, x = κ1 := ⟨_, rfl⟩
  obtain ⟨g, rfl⟩ : ∃ x, x = g1 := ⟨_, rfl⟩
  refine lv_istore (lv' := [(7, .int w), (6, .int v), (0, .ref b), (1, .ref (P 0)), (2, .ref pm), (3, .ref po), (4, .ref pd), (5, .int (nI (4 * k)))]) hx hb dL_law_1042 hl (by decide) rfl (fun ls hl => ?_)
  refine lv_goto (tgt := 1364) hx hb dL_law_1044 (by decide) ?_
  have hl := lv_sub hl [2, 3, 4, 5, 6, 7] (l' := [(0, .ref b), (1, .ref (P 0)), (2, .ref pm), (3, .ref po), (4, .ref pd), (5, .int (nI (4 * k)))]) rfl
  refine W.widen (k := 60 + 20 * (k + 1) + 37 * t) (n := 400 + 120 * (k + 1) + 162 * t) (by omega) (by omega) ?_
  refine W.base ?_
  exact hN s.drawn L κ g _ _ _ _ (Drawn.sameBut.refl _ _) hJ hko hkd hI hl

set_option maxHeartbeats 4000000 in
set_option maxRecDepth 100000 in
theorem k_battery (l : Launch) (hnt : l.stackTraces = false) {p : Program} {e : Env} {s : State} {m : MethodId} {below : List Frame} {meth : Method} {c : Code} {H : Heap} {locs : List Loc} {Q : State → Prop} {D : va_G} {tc : Nat → ClassId} {z0 b N : Nat} {xs : Nat → Int32} {px pm po pd rq t k : Nat} {L : List Nat} {κ : Nat → Nat} {g : Nat → Nat → Value} {ls : Array Slot} (C : lwC p s m meth c b N xs D tc z0) (hk : 4 * k + 4 ≤ N) (hN8 : N ≤ 2048) (hJ : zJ κ g z0 px pm rq t k) (hko : κ po = 29) (hkd : κ pd = 30) (hI : zI D tc (zA [] [] s.heap.size) s.heap [] L κ g H locs) (hl : lv_has ls 9 [(0, .ref b), (1, .ref px), (2, .ref pm), (3, .ref po), (4, .ref pd), (5, .int (nI (4 * k)))]) (hN : lwN p l e s m below meth c b D tc z0 px pm po pd rq k Q) : W p l e room_1 s m #[Value.ref b] below meth c H locs (60 + 20 * k + 37 * t) (400 + 120 * k + 162 * t) Q (F0 m 1047 ls []) := by
  obtain ⟨hx, hb, hml, hown, hts, hK, hE, hX, hbl⟩ := C
  have hbA : ¬ zA [] [] s.heap.size b := fun q => by rcases q with q | q | q; exact absurd q List.not_mem_nil; exact absurd q List.not_mem_nil; exact absurd hbl (Nat.not_lt.mpr q)
  have htb9 : t ≤ 9999 := hJ.1.2.2.1.2
  obtain ⟨⟨⟨hkx, hkm, hkq⟩, hR, ⟨htM, htb⟩, ⟨aC, hkC, hC⟩, ⟨aT, hkT, hT⟩, ⟨co, hkO, hO⟩, ⟨sp, hkS, hS9⟩, lc, eC, nC, mC, cf9, lt, eT, nT, mT, tf, hMo⟩, P, cf, bf, a9, q9, nc, t9, rfl, hSd⟩ := id hJ
  have hWa : zWa g aC 19998 := by rw [show aC = P 1 from Value.ref.inj (hC.symm.trans hSd.1.2.1.1)]; exact (hSd.1.wa hSd.2.2.2.2.2.1).mono2 (by have := hSd.2.2.2.2.1; omega)
  refine lv_aload_n hx hb dL_law_1047 rfl (lv_at hl 1 rfl) ?_
  refine z_ci hI (va_runV (As := []) (rest := []) ⟨hx, hb, hml, hown, hts⟩ (c_X8_battery l D tc z0 _ κ g _ (P 0) hkx  ) (cwV 0 hts gL_law_X8_battery rfl rfl rfl (by decide +kernel) ⟨Nat.le_of_ble_eq_true rfl, Nat.le_of_ble_eq_true rfl⟩) (z_preV (Xc := []) hK hE hI [] rfl rfl (z_recv hK hI hkx rfl rfl)) rfl rfl hl.1 rfl (lv_room (Nat.le_of_ble_eq_true rfl)) dL_law_1048 ⟨(show 60 + 20 * k + 37 * t + 0 ≤ 798071 from by omega), (show 400 + 120 * k + 162 * t + 0 ≤ 6701890 from by omega)⟩) (fun v u H locs hw hI => ?_)
  have hw9 : u = (L, κ, g) := by first | exact hw | exact hw.2 | exact hw.2.2 | exact hw.2.2.2
  obtain rfl := hw9
  have hJ := hJ.more
  have hI : zI D tc (zA [] [] s.heap.size) s.heap [] L κ g H locs := hI
  refine lv_pop hx hb dL_law_1051 rfl ?_
  refine lv_aload_n hx hb dL_law_1052 rfl (lv_at hl 2 rfl) ?_
  obtain ⟨⟨⟨hkx, hkm, hkq⟩, hR, ⟨htM, htb⟩, ⟨aC, hkC, hC⟩, ⟨aT, hkT, hT⟩, ⟨co, hkO, hO⟩, ⟨sp, hkS, hS9⟩, lc, eC, nC, mC, cf9, lt, eT, nT, mT, tf, hMo⟩, -⟩ := id hJ
  refine z_ci hI (va_runV (As := []) (rest := []) ⟨hx, hb, hml, hown, hts⟩ (c_X11_battery l D tc z0 _ κ g _ pm hkm   ) (cwV 0 hts gL_law_X11_battery rfl rfl rfl (by decide +kernel) ⟨Nat.le_of_ble_eq_true rfl, Nat.le_of_ble_eq_true rfl⟩) (z_preV (Xc := []) hK hE hI [] rfl rfl (z_recv hK hI hkm rfl rfl)) rfl rfl hl.1 rfl (lv_room (Nat.le_of_ble_eq_true rfl)) dL_law_1053 ⟨(show 60 + 20 * k + 37 * t + 0 + 0 ≤ 798071 from by omega), (show 400 + 120 * k + 162 * t + 0 + 0 ≤ 6701890 from by omega)⟩) (fun w u H locs hw hI => ?_)
  obtain ⟨x9, rfl⟩ := hw
  have hJ := hJ.upM (j := 12) (v := .int x9) (by decide)
  have hI : zI D tc (zA [] [] s.heap.size) s.heap [] L κ (zup g pm 12 (.int x9)) H locs := hI
  generalize (zup g pm 12 (.int x9)) = g at hI hJ
  refine lv_pop hx hb dL_law_1056 rfl ?_
  refine lv_goto (tgt := 1364) hx hb dL_law_1057 (by decide) ?_
  have hl := lv_sub hl [0, 1, 2, 3, 4, 5] (l' := [(0, .ref b), (1, .ref (P 0)), (2, .ref pm), (3, .ref po), (4, .ref pd), (5, .int (nI (4 * k)))]) rfl
  refine W.widen (k := 60 + 20 * (k + 1) + 37 * t) (n := 400 + 120 * (k + 1) + 162 * t) (by omega) (by omega) ?_
  refine W.base ?_
  exact hN s.drawn L κ g _ _ _ _ (Drawn.sameBut.refl _ _) hJ hko hkd hI hl

set_option maxHeartbeats 4000000 in
set_option maxRecDepth 100000 in
theorem k_purse (l : Launch) (hnt : l.stackTraces = false) {p : Program} {e : Env} {s : State} {m : MethodId} {below : List Frame} {meth : Method} {c : Code} {H : Heap} {locs : List Loc} {Q : State → Prop} {D : va_G} {tc : Nat → ClassId} {z0 b N : Nat} {xs : Nat → Int32} {px pm po pd rq t k : Nat} {L : List Nat} {κ : Nat → Nat} {g : Nat → Nat → Value} {ls : Array Slot} (C : lwC p s m meth c b N xs D tc z0) (hk : 4 * k + 4 ≤ N) (hN8 : N ≤ 2048) (hJ : zJ κ g z0 px pm rq t k) (hko : κ po = 29) (hkd : κ pd = 30) (hI : zI D tc (zA [] [] s.heap.size) s.heap [] L κ g H locs) (hl : lv_has ls 9 [(0, .ref b), (1, .ref px), (2, .ref pm), (3, .ref po), (4, .ref pd), (5, .int (nI (4 * k)))]) (hN : lwN p l e s m below meth c b D tc z0 px pm po pd rq k Q) : W p l e room_1 s m #[Value.ref b] below meth c H locs (60 + 20 * k + 37 * t) (400 + 120 * k + 162 * t) Q (F0 m 1060 ls []) := by
  obtain ⟨hx, hb, hml, hown, hts, hK, hE, hX, hbl⟩ := C
  have hbA : ¬ zA [] [] s.heap.size b := fun q => by rcases q with q | q | q; exact absurd q List.not_mem_nil; exact absurd q List.not_mem_nil; exact absurd hbl (Nat.not_lt.mpr q)
  have htb9 : t ≤ 9999 := hJ.1.2.2.1.2
  obtain ⟨⟨⟨hkx, hkm, hkq⟩, hR, ⟨htM, htb⟩, ⟨aC, hkC, hC⟩, ⟨aT, hkT, hT⟩, ⟨co, hkO, hO⟩, ⟨sp, hkS, hS9⟩, lc, eC, nC, mC, cf9, lt, eT, nT, mT, tf, hMo⟩, P, cf, bf, a9, q9, nc, t9, rfl, hSd⟩ := id hJ
  have hWa : zWa g aC 19998 := by rw [show aC = P 1 from Value.ref.inj (hC.symm.trans hSd.1.2.1.1)]; exact (hSd.1.wa hSd.2.2.2.2.2.1).mono2 (by have := hSd.2.2.2.2.1; omega)
  refine lv_aload_n hx hb dL_law_1060 rfl (lv_at hl 1 rfl) ?_
  refine z_ci hI (va_runV (As := []) (rest := []) ⟨hx, hb, hml, hown, hts⟩ (c_X8_purse l D tc z0 _ κ g _ (P 0) hkx  ) (cwV 0 hts gL_law_X8_purse rfl rfl rfl (by decide +kernel) ⟨Nat.le_of_ble_eq_true rfl, Nat.le_of_ble_eq_true rfl⟩) (z_preV (Xc := []) hK hE hI [] rfl rfl (z_recv hK hI hkx rfl rfl)) rfl rfl hl.1 rfl (lv_room (Nat.le_of_ble_eq_true rfl)) dL_law_1061 ⟨(show 60 + 20 * k + 37 * t + 0 ≤ 798071 from by omega), (show 400 + 120 * k + 162 * t + 0 ≤ 6701890 from by omega)⟩) (fun v u H locs hw hI => ?_)
  have hw9 : u = (L, κ, g) := by first | exact hw | exact hw.2 | exact hw.2.2 | exact hw.2.2.2
  obtain rfl := hw9
  have hJ := hJ.more
  have hI : zI D tc (zA [] [] s.heap.size) s.heap [] L κ g H locs := hI
  refine lv_pop hx hb dL_law_1064 rfl ?_
  refine lv_aload_n hx hb dL_law_1065 rfl (lv_at hl 2 rfl) ?_
  obtain ⟨⟨⟨hkx, hkm, hkq⟩, hR, ⟨htM, htb⟩, ⟨aC, hkC, hC⟩, ⟨aT, hkT, hT⟩, ⟨co, hkO, hO⟩, ⟨sp, hkS, hS9⟩, lc, eC, nC, mC, cf9, lt, eT, nT, mT, tf, hMo⟩, -⟩ := id hJ
  refine z_ci hI (va_runV (As := []) (rest := []) ⟨hx, hb, hml, hown, hts⟩ (c_X11_purse l D tc z0 _ κ g _ pm hkm   ) (cwV 0 hts gL_law_X11_purse rfl rfl rfl (by decide +kernel) ⟨Nat.le_of_ble_eq_true rfl, Nat.le_of_ble_eq_true rfl⟩) (z_preV (Xc := []) hK hE hI [] rfl rfl (z_recv hK hI hkm rfl rfl)) rfl rfl hl.1 rfl (lv_room (Nat.le_of_ble_eq_true rfl)) dL_law_1066 ⟨(show 60 + 20 * k + 37 * t + 0 + 0 ≤ 798071 from by omega), (show 400 + 120 * k + 162 * t + 0 + 0 ≤ 6701890 from by omega)⟩) (fun w u H locs hw hI => ?_)
  obtain ⟨x9, rfl⟩ := hw
  have hJ := hJ.upM (j := 12) (v := .int x9) (by decide)
  have hI : zI D tc (zA [] [] s.heap.size) s.heap [] L κ (zup g pm 12 (.int x9)) H locs := hI
  generalize (zup g pm 12 (.int x9)) = g at hI hJ
  refine lv_pop hx hb dL_law_1069 rfl ?_
  refine lv_goto (tgt := 1364) hx hb dL_law_1070 (by decide) ?_
  have hl := lv_sub hl [0, 1, 2, 3, 4, 5] (l' := [(0, .ref b), (1, .ref (P 0)), (2, .ref pm), (3, .ref po), (4, .ref pd), (5, .int (nI (4 * k)))]) rfl
  refine W.widen (k := 60 + 20 * (k + 1) + 37 * t) (n := 400 + 120 * (k + 1) + 162 * t) (by omega) (by omega) ?_
  refine W.base ?_
  exact hN s.drawn L κ g _ _ _ _ (Drawn.sameBut.refl _ _) hJ hko hkd hI hl

set_option maxHeartbeats 4000000 in
set_option maxRecDepth 100000 in
theorem k_taken (l : Launch) (hnt : l.stackTraces = false) {p : Program} {e : Env} {s : State} {m : MethodId} {below : List Frame} {meth : Method} {c : Code} {H : Heap} {locs : List Loc} {Q : State → Prop} {D : va_G} {tc : Nat → ClassId} {z0 b N : Nat} {xs : Nat → Int32} {px pm po pd rq t k : Nat} {L : List Nat} {κ : Nat → Nat} {g : Nat → Nat → Value} {ls : Array Slot} (C : lwC p s m meth c b N xs D tc z0) (hk : 4 * k + 4 ≤ N) (hN8 : N ≤ 2048) (hJ : zJ κ g z0 px pm rq t k) (hko : κ po = 29) (hkd : κ pd = 30) (hI : zI D tc (zA [] [] s.heap.size) s.heap [] L κ g H locs) (hl : lv_has ls 9 [(0, .ref b), (1, .ref px), (2, .ref pm), (3, .ref po), (4, .ref pd), (5, .int (nI (4 * k)))]) (hN : lwN p l e s m below meth c b D tc z0 px pm po pd rq k Q) : W p l e room_1 s m #[Value.ref b] below meth c H locs (60 + 20 * k + 37 * t) (400 + 120 * k + 162 * t) Q (F0 m 1073 ls []) := by
  obtain ⟨hx, hb, hml, hown, hts, hK, hE, hX, hbl⟩ := C
  have hbA : ¬ zA [] [] s.heap.size b := fun q => by rcases q with q | q | q; exact absurd q List.not_mem_nil; exact absurd q List.not_mem_nil; exact absurd hbl (Nat.not_lt.mpr q)
  have htb9 : t ≤ 9999 := hJ.1.2.2.1.2
  obtain ⟨⟨⟨hkx, hkm, hkq⟩, hR, ⟨htM, htb⟩, ⟨aC, hkC, hC⟩, ⟨aT, hkT, hT⟩, ⟨co, hkO, hO⟩, ⟨sp, hkS, hS9⟩, lc, eC, nC, mC, cf9, lt, eT, nT, mT, tf, hMo⟩, P, cf, bf, a9, q9, nc, t9, rfl, hSd⟩ := id hJ
  have hWa : zWa g aC 19998 := by rw [show aC = P 1 from Value.ref.inj (hC.symm.trans hSd.1.2.1.1)]; exact (hSd.1.wa hSd.2.2.2.2.2.1).mono2 (by have := hSd.2.2.2.2.1; omega)
  refine lv_aload_n hx hb dL_law_1073 rfl (lv_at hl 1 rfl) ?_
  refine z_ci hI (va_runV (As := []) (rest := []) ⟨hx, hb, hml, hown, hts⟩ (c_X8_taken l D tc z0 _ κ g _ (P 0) hkx  ) (cwV 0 hts gL_law_X8_taken rfl rfl rfl (by decide +kernel) ⟨Nat.le_of_ble_eq_true rfl, Nat.le_of_ble_eq_true rfl⟩) (z_preV (Xc := []) hK hE hI [] rfl rfl (z_recv hK hI hkx rfl rfl)) rfl rfl hl.1 rfl (lv_room (Nat.le_of_ble_eq_true rfl)) dL_law_1074 ⟨(show 60 + 20 * k + 37 * t + 0 ≤ 798071 from by omega), (show 400 + 120 * k + 162 * t + 0 ≤ 6701890 from by omega)⟩) (fun v u H locs hw hI => ?_)
  have hw9 : u = (L, κ, g) := by first | exact hw | exact hw.2 | exact hw.2.2 | exact hw.2.2.2
  obtain rfl := hw9
  have hJ := hJ.more
  have hI : zI D tc (zA [] [] s.heap.size) s.heap [] L κ g H locs := hI
  refine lv_pop hx hb dL_law_1077 rfl ?_
  refine lv_aload_n hx hb dL_law_1078 rfl (lv_at hl 2 rfl) ?_
  obtain ⟨⟨⟨hkx, hkm, hkq⟩, hR, ⟨htM, htb⟩, ⟨aC, hkC, hC⟩, ⟨aT, hkT, hT⟩, ⟨co, hkO, hO⟩, ⟨sp, hkS, hS9⟩, lc, eC, nC, mC, cf9, lt, eT, nT, mT, tf, hMo⟩, -⟩ := id hJ
  refine z_ci hI (va_runV (As := []) (rest := []) ⟨hx, hb, hml, hown, hts⟩ (c_X11_taken l D tc z0 _ κ g _ pm hkm   ) (cwV 0 hts gL_law_X11_taken rfl rfl rfl (by decide +kernel) ⟨Nat.le_of_ble_eq_true rfl, Nat.le_of_ble_eq_true rfl⟩) (z_preV (Xc := []) hK hE hI [] rfl rfl (z_recv hK hI hkm rfl rfl)) rfl rfl hl.1 rfl (lv_room (Nat.le_of_ble_eq_true rfl)) dL_law_1079 ⟨(show 60 + 20 * k + 37 * t + 0 + 0 ≤ 798071 from by omega), (show 400 + 120 * k + 162 * t + 0 + 0 ≤ 6701890 from by omega)⟩) (fun w u H locs hw hI => ?_)
  obtain ⟨x9, rfl⟩ := hw
  have hJ := hJ.upM (j := 12) (v := .int x9) (by decide)
  have hI : zI D tc (zA [] [] s.heap.size) s.heap [] L κ (zup g pm 12 (.int x9)) H locs := hI
  generalize (zup g pm 12 (.int x9)) = g at hI hJ
  refine lv_pop hx hb dL_law_1082 rfl ?_
  refine lv_goto (tgt := 1364) hx hb dL_law_1083 (by decide) ?_
  have hl := lv_sub hl [0, 1, 2, 3, 4, 5] (l' := [(0, .ref b), (1, .ref (P 0)), (2, .ref pm), (3, .ref po), (4, .ref pd), (5, .int (nI (4 * k)))]) rfl
  refine W.widen (k := 60 + 20 * (k + 1) + 37 * t) (n := 400 + 120 * (k + 1) + 162 * t) (by omega) (by omega) ?_
  refine W.base ?_
  exact hN s.drawn L κ g _ _ _ _ (Drawn.sameBut.refl _ _) hJ hko hkd hI hl

set_option maxHeartbeats 4000000 in
set_option maxRecDepth 100000 in
theorem k_owed (l : Launch) (hnt : l.stackTraces = false) {p : Program} {e : Env} {s : State} {m : MethodId} {below : List Frame} {meth : Method} {c : Code} {H : Heap} {locs : List Loc} {Q : State → Prop} {D : va_G} {tc : Nat → ClassId} {z0 b N : Nat} {xs : Nat → Int32} {px pm po pd rq t k : Nat} {L : List Nat} {κ : Nat → Nat} {g : Nat → Nat → Value} {ls : Array Slot} (C : lwC p s m meth c b N xs D tc z0) (hk : 4 * k + 4 ≤ N) (hN8 : N ≤ 2048) (hJ : zJ κ g z0 px pm rq t k) (hko : κ po = 29) (hkd : κ pd = 30) (hI : zI D tc (zA [] [] s.heap.size) s.heap [] L κ g H locs) (hl : lv_has ls 9 [(0, .ref b), (1, .ref px), (2, .ref pm), (3, .ref po), (4, .ref pd), (5, .int (nI (4 * k)))]) (hN : lwN p l e s m below meth c b D tc z0 px pm po pd rq k Q) : W p l e room_1 s m #[Value.ref b] below meth c H locs (60 + 20 * k + 37 * t) (400 + 120 * k + 162 * t) Q (F0 m 1086 ls []) := by
  obtain ⟨hx, hb, hml, hown, hts, hK, hE, hX, hbl⟩ := C
  have hbA : ¬ zA [] [] s.heap.size b := fun q => by rcases q with q | q | q; exact absurd q List.not_mem_nil; exact absurd q List.not_mem_nil; exact absurd hbl (Nat.not_lt.mpr q)
  have htb9 : t ≤ 9999 := hJ.1.2.2.1.2
  obtain ⟨⟨⟨hkx, hkm, hkq⟩, hR, ⟨htM, htb⟩, ⟨aC, hkC, hC⟩, ⟨aT, hkT, hT⟩, ⟨co, hkO, hO⟩, ⟨sp, hkS, hS9⟩, lc, eC, nC, mC, cf9, lt, eT, nT, mT, tf, hMo⟩, P, cf, bf, a9, q9, nc, t9, rfl, hSd⟩ := id hJ
  have hWa : zWa g aC 19998 := by rw [show aC = P 1 from Value.ref.inj (hC.symm.trans hSd.1.2.1.1)]; exact (hSd.1.wa hSd.2.2.2.2.2.1).mono2 (by have := hSd.2.2.2.2.1; omega)
  refine lv_aload_n hx hb dL_law_1086 rfl (lv_at hl 1 rfl) ?_
  refine z_ci hI (va_runV (As := []) (rest := []) ⟨hx, hb, hml, hown, hts⟩ (c_X8_owed l D tc z0 _ κ g _ (P 0) hkx  ) (cwV 0 hts gL_law_X8_owed rfl rfl rfl (by decide +kernel) ⟨Nat.le_of_ble_eq_true rfl, Nat.le_of_ble_eq_true rfl⟩) (z_preV (Xc := []) hK hE hI [] rfl rfl (z_recv hK hI hkx rfl rfl)) rfl rfl hl.1 rfl (lv_room (Nat.le_of_ble_eq_true rfl)) dL_law_1087 ⟨(show 60 + 20 * k + 37 * t + 0 ≤ 798071 from by omega), (show 400 + 120 * k + 162 * t + 0 ≤ 6701890 from by omega)⟩) (fun v u H locs hw hI => ?_)
  have hw9 : u = (L, κ, g) := by first | exact hw | exact hw.2 | exact hw.2.2 | exact hw.2.2.2
  obtain rfl := hw9
  have hJ := hJ.more
  have hI : zI D tc (zA [] [] s.heap.size) s.heap [] L κ g H locs := hI
  refine lv_pop hx hb dL_law_1090 rfl ?_
  refine lv_aload_n hx hb dL_law_1091 rfl (lv_at hl 2 rfl) ?_
  obtain ⟨⟨⟨hkx, hkm, hkq⟩, hR, ⟨htM, htb⟩, ⟨aC, hkC, hC⟩, ⟨aT, hkT, hT⟩, ⟨co, hkO, hO⟩, ⟨sp, hkS, hS9⟩, lc, eC, nC, mC, cf9, lt, eT, nT, mT, tf, hMo⟩, -⟩ := id hJ
  refine z_ci hI (va_runV (As := []) (rest := []) ⟨hx, hb, hml, hown, hts⟩ (c_X11_owed l D tc z0 _ κ g _ pm hkm   ) (cwV 0 hts gL_law_X11_owed rfl rfl rfl (by decide +kernel) ⟨Nat.le_of_ble_eq_true rfl, Nat.le_of_ble_eq_true rfl⟩) (z_preV (Xc := []) hK hE hI [] rfl rfl (z_recv hK hI hkm rfl rfl)) rfl rfl hl.1 rfl (lv_room (Nat.le_of_ble_eq_true rfl)) dL_law_1092 ⟨(show 60 + 20 * k + 37 * t + 0 + 0 ≤ 798071 from by omega), (show 400 + 120 * k + 162 * t + 0 + 0 ≤ 6701890 from by omega)⟩) (fun w u H locs hw hI => ?_)
  obtain ⟨x9, rfl⟩ := hw
  have hJ := hJ.upM (j := 12) (v := .int x9) (by decide)
  have hI : zI D tc (zA [] [] s.heap.size) s.heap [] L κ (zup g pm 12 (.int x9)) H locs := hI
  generalize (zup g pm 12 (.int x9)) = g at hI hJ
  refine lv_pop hx hb dL_law_1095 rfl ?_
  refine lv_goto (tgt := 1364) hx hb dL_law_1096 (by decide) ?_
  have hl := lv_sub hl [0, 1, 2, 3, 4, 5] (l' := [(0, .ref b), (1, .ref (P 0)), (2, .ref pm), (3, .ref po), (4, .ref pd), (5, .int (nI (4 * k)))]) rfl
  refine W.widen (k := 60 + 20 * (k + 1) + 37 * t) (n := 400 + 120 * (k + 1) + 162 * t) (by omega) (by omega) ?_
  refine W.base ?_
  exact hN s.drawn L κ g _ _ _ _ (Drawn.sameBut.refl _ _) hJ hko hkd hI hl

set_option maxHeartbeats 4000000 in
set_option maxRecDepth 100000 in
theorem k_request (l : Launch) (hnt : l.stackTraces = false) {p : Program} {e : Env} {s : State} {m : MethodId} {below : List Frame} {meth : Method} {c : Code} {H : Heap} {locs : List Loc} {Q : State → Prop} {D : va_G} {tc : Nat → ClassId} {z0 b N : Nat} {xs : Nat → Int32} {px pm po pd rq t k : Nat} {L : List Nat} {κ : Nat → Nat} {g : Nat → Nat → Value} {ls : Array Slot} (C : lwC p s m meth c b N xs D tc z0) (hk : 4 * k + 4 ≤ N) (hN8 : N ≤ 2048) (hJ : zJ κ g z0 px pm rq t k) (hko : κ po = 29) (hkd : κ pd = 30) (hI : zI D tc (zA [] [] s.heap.size) s.heap [] L κ g H locs) (hl : lv_has ls 9 [(0, .ref b), (1, .ref px), (2, .ref pm), (3, .ref po), (4, .ref pd), (5, .int (nI (4 * k)))]) (hN : lwN p l e s m below meth c b D tc z0 px pm po pd rq k Q) : W p l e room_1 s m #[Value.ref b] below meth c H locs (60 + 20 * k + 37 * t) (400 + 120 * k + 162 * t) Q (F0 m 1099 ls []) := by
  obtain ⟨hx, hb, hml, hown, hts, hK, hE, hX, hbl⟩ := C
  have hbA : ¬ zA [] [] s.heap.size b := fun q => by rcases q with q | q | q; exact absurd q List.not_mem_nil; exact absurd q List.not_mem_nil; exact absurd hbl (Nat.not_lt.mpr q)
  have htb9 : t ≤ 9999 := hJ.1.2.2.1.2
  obtain ⟨⟨⟨hkx, hkm, hkq⟩, hR, ⟨htM, htb⟩, ⟨aC, hkC, hC⟩, ⟨aT, hkT, hT⟩, ⟨co, hkO, hO⟩, ⟨sp, hkS, hS9⟩, lc, eC, nC, mC, cf9, lt, eT, nT, mT, tf, hMo⟩, P, cf, bf, a9, q9, nc, t9, rfl, hSd⟩ := id hJ
  have hWa : zWa g aC 19998 := by rw [show aC = P 1 from Value.ref.inj (hC.symm.trans hSd.1.2.1.1)]; exact (hSd.1.wa hSd.2.2.2.2.2.1).mono2 (by have := hSd.2.2.2.2.1; omega)
  refine lv_aload_n hx hb dL_law_1099 rfl (lv_at hl 1 rfl) ?_
  refine lv_aload_n hx hb dL_law_1100 rfl (lv_at hl 0 rfl) ?_
  refine lv_iload hx hb dL_law_1101 (lv_at hl 5 rfl) ?_
  refine lv_iconst (v := 1) hx hb dL_law_1103 (by decide) ?_
  refine lv_iadd hx hb dL_law_1104 ?_
  rw [show nI (4 * k) + 1 = nI (4 * k + 1) from nI_add _ _]
  refine va_sld hx hb hX hbl hbA hI.2.1 (vp_in_nI (show 4 * k + 1 < N from by omega) (by omega)) dL_law_1105 ?_
  refine lv_aload_n hx hb dL_law_1106 rfl (lv_at hl 0 rfl) ?_
  refine lv_iload hx hb dL_law_1107 (lv_at hl 5 rfl) ?_
  refine lv_iconst (v := 2) hx hb dL_law_1109 (by decide) ?_
  refine lv_iadd hx hb dL_law_1110 ?_
  rw [show nI (4 * k) + 2 = nI (4 * k + 2) from nI_add _ _]
  refine va_sld hx hb hX hbl hbA hI.2.1 (vp_in_nI (show 4 * k + 2 < N from by omega) (by omega)) dL_law_1111 ?_
  refine lv_aload_n hx hb dL_law_1112 rfl (lv_at hl 3 rfl) ?_
  refine z_xi hI (vx_runSX (As := [.ref (P 0), .int (xs (nI (4 * k + 1)).toNatClampNeg), .int (xs (nI (4 * k + 2)).toNatClampNeg), .ref po]) (rest := []) ⟨hx, hb, hml, hown, hts⟩ (c_L_request l hnt D tc z0 _ κ g _ (P 0) hkx (xs (nI (4 * k + 1)).toNatClampNeg) (xs (nI (4 * k + 2)).toNatClampNeg) po hko ) (vx_cwSW 4 hts gL_law_L_request rfl rfl rfl (by decide +kernel) ⟨Nat.le_of_ble_eq_true rfl, Nat.le_of_ble_eq_true rfl⟩) (z_pre (Xc := []) hK hE hI [] rfl rfl) rfl rfl hl.1 rfl (lv_room (Nat.le_of_ble_eq_true rfl)) dL_law_1113 ⟨(show 60 + 20 * k + 37 * t + 1 ≤ 798071 from by omega), (show 400 + 120 * k + 162 * t + 6 ≤ 6701890 from by omega)⟩) (fun E ce q9 u H locs hw hI he1 he2 he3 => hw.elim) (fun v u H locs hw hI => ?_)
  obtain ⟨L1, κ1, g1⟩ := u
  have hI : zI D tc (zA [] [] s.heap.size) s.heap [] L1 κ1 g1 H locs := hI
  have hJ : zJ κ1 g1 z0 (P 0) pm rq t (k + 1) ∧ κ1 po = 29 ∧ κ1 pd = 30 := by
    rcases hw with ⟨_, r1, u1, v9, hp, hu⟩ | ⟨_, hp⟩ | ⟨_, hp⟩
    · cases hu
      have hp9 : u1 = (L, κ, g) := by first | exact hp | exact hp.2 | exact hp.2.2 | exact hp.2.2.2
      cases hp9
      exact ⟨(hJ.up hko (by decide)).more, hko, hkd⟩
    · obtain ⟨_, hp⟩ := hp
      cases hp
      exact ⟨hJ.more, hko, hkd⟩
    · obtain ⟨_, hp⟩ := hp
      cases hp
      exact ⟨hJ.more, hko, hkd⟩
  obtain ⟨hJ, hko, hkd⟩ := hJ
  clear hw
  obtain ⟨L, rfl⟩ : ∃ x, x = L1 := ⟨_, rfl⟩
  obtain ⟨κ, rfl⟩ : ∃ x, x = κ1 := ⟨_, rfl⟩
  obtain ⟨g, rfl⟩ : ∃ x, x = g1 := ⟨_, rfl⟩
  refine lv_istore (lv' := [(6, .int v), (0, .ref b), (1, .ref (P 0)), (2, .ref pm), (3, .ref po), (4, .ref pd), (5, .int (nI (4 * k)))]) hx hb dL_law_1116 hl (by decide) rfl (fun ls hl => ?_)
  refine lv_aload_n hx hb dL_law_1118 rfl (lv_at hl 3 rfl) ?_
  refine lv_aload_n hx hb dL_law_1119 rfl (lv_at hl 1 rfl) ?_
  refine lv_iload hx hb dL_law_1120 (lv_at hl 6 rfl) ?_
  refine lv_iconst (v := 1) hx hb dL_law_1122 (by decide) ?_
  refine lv_iadd hx hb dL_law_1123 ?_
  rw [show nI (4 * k) + 1 = nI (4 * k + 1) from nI_add _ _]
  refine va_sld hx hb hX hbl hbA hI.2.1 (vp_in_nI (show 4 * k + 1 < N from by omega) (by omega)) dL_law_1124 ?_
  refine lv_aload_n hx hb dL_law_1125 rfl (lv_at hl 1 rfl) ?_
  refine lv_iload hx hb dL_law_1126 (lv_at hl 6 rfl) ?_
  refine lv_iconst (v := 2) hx hb dL_law_1128 (by decide) ?_
  refine lv_iadd hx hb dL_law_1129 ?_
  rw [show nI (4 * k) + 2 = nI (4 * k + 2) from nI_add _ _]
  refine va_sld hx hb hX hbl hbA hI.2.1 (vp_in_nI (show 4 * k + 2 < N from by omega) (by omega)) dL_law_1130 ?_
  obtain ⟨⟨⟨hkx, hkm, hkq⟩, hR, ⟨htM, htb⟩, ⟨aC, hkC, hC⟩, ⟨aT, hkT, hT⟩, ⟨co, hkO, hO⟩, ⟨sp, hkS, hS9⟩, lc, eC, nC, mC, cf9, lt, eT, nT, mT, tf, hMo⟩, -⟩ := id hJ
  obtain ⟨n9, hn9⟩ := z_gi (j := 18) hI hkm rfl rfl
  obtain ⟨k9, hk9⟩ := z_gi (j := 13) hI hkm rfl rfl
  refine z_ci hI (va_runV (As := [.int (xs (nI (4 * k + 1)).toNatClampNeg), .int (xs (nI (4 * k + 2)).toNatClampNeg)]) (rest := []) ⟨hx, hb, hml, hown, hts⟩ (c_X11_request l D tc z0 _ κ g _ pm hkm (xs (nI (4 * k + 1)).toNatClampNeg) (xs (nI (4 * k + 2)).toNatClampNeg)  n9 k9 hn9 hk9) (cwV 2 hts gL_law_X11_request rfl rfl rfl (by decide +kernel) ⟨Nat.le_of_ble_eq_true rfl, Nat.le_of_ble_eq_true rfl⟩) (z_preV (Xc := []) hK hE hI [] rfl rfl (z_recv hK hI hkm rfl rfl)) rfl rfl hl.1 rfl (lv_room (Nat.le_of_ble_eq_true rfl)) dL_law_1131 ⟨(show 60 + 20 * k + 37 * t + 1 + 0 ≤ 798071 from by omega), (show 400 + 120 * k + 162 * t + 6 + 0 ≤ 6701890 from by omega)⟩) (fun w u H locs hw hI => ?_)
  obtain ⟨L1, κ1, g1⟩ := u
  have hI : zI D tc (zA [] [] s.heap.size) s.heap [] L1 κ1 g1 H locs := hI
  have hJ : zJ κ1 g1 z0 (P 0) pm rq t (k + 1) ∧ κ1 po = 29 ∧ κ1 pd = 30 := by
    rcases hw with ⟨_, w1, hu⟩ | ⟨_, w1, w2, hu⟩ | ⟨_, w1, w2, w3, hu⟩ | ⟨w1, w2, w3, _, hu⟩
    · cases hu
      exact ⟨(hJ.upM (by decide)).upM (by decide), hko, hkd⟩
    · cases hu
      exact ⟨(hJ.upM (by decide)).upM (by decide), hko, hkd⟩
    · cases hu
      exact ⟨(hJ.upM (by decide)).upM (by decide), hko, hkd⟩
    · cases hu
      exact ⟨(((hJ.upM (by decide)).upM (by decide)).upM (by decide)).upM (by decide), hko, hkd⟩
  obtain ⟨hJ, hko, hkd⟩ := hJ
  obtain ⟨L, rfl⟩ : ∃ x, x = L1 := ⟨_, rfl⟩
  obtain ⟨κ, rfl⟩ : ∃ x, x = κ1 := ⟨_, rfl⟩
  obtain ⟨g, rfl⟩ : ∃ x, x = g1 := ⟨_, rfl⟩
  refine lv_istore (lv' := [(7, .int w), (6, .int v), (0, .ref b), (1, .ref (P 0)), (2, .ref pm), (3, .ref po), (4, .ref pd), (5, .int (nI (4 * k)))]) hx hb dL_law_1134 hl (by decide) rfl (fun ls hl => ?_)
  refine lv_goto (tgt := 1364) hx hb dL_law_1136 (by decide) ?_
  have hl := lv_sub hl [2, 3, 4, 5, 6, 7] (l' := [(0, .ref b), (1, .ref (P 0)), (2, .ref pm), (3, .ref po), (4, .ref pd), (5, .int (nI (4 * k)))]) rfl
  refine W.widen (k := 60 + 20 * (k + 1) + 37 * t) (n := 400 + 120 * (k + 1) + 162 * t) (by omega) (by omega) ?_
  refine W.base ?_
  exact hN s.drawn L κ g _ _ _ _ (Drawn.sameBut.refl _ _) hJ hko hkd hI hl

set_option maxHeartbeats 4000000 in
set_option maxRecDepth 100000 in
theorem k_holds (l : Launch) (hnt : l.stackTraces = false) {p : Program} {e : Env} {s : State} {m : MethodId} {below : List Frame} {meth : Method} {c : Code} {H : Heap} {locs : List Loc} {Q : State → Prop} {D : va_G} {tc : Nat → ClassId} {z0 b N : Nat} {xs : Nat → Int32} {px pm po pd rq t k : Nat} {L : List Nat} {κ : Nat → Nat} {g : Nat → Nat → Value} {ls : Array Slot} (C : lwC p s m meth c b N xs D tc z0) (hk : 4 * k + 4 ≤ N) (hN8 : N ≤ 2048) (hJ : zJ κ g z0 px pm rq t k) (hko : κ po = 29) (hkd : κ pd = 30) (hI : zI D tc (zA [] [] s.heap.size) s.heap [] L κ g H locs) (hl : lv_has ls 9 [(0, .ref b), (1, .ref px), (2, .ref pm), (3, .ref po), (4, .ref pd), (5, .int (nI (4 * k)))]) (hN : lwN p l e s m below meth c b D tc z0 px pm po pd rq k Q) : W p l e room_1 s m #[Value.ref b] below meth c H locs (60 + 20 * k + 37 * t) (400 + 120 * k + 162 * t) Q (F0 m 1139 ls []) := by
  obtain ⟨hx, hb, hml, hown, hts, hK, hE, hX, hbl⟩ := C
  have hbA : ¬ zA [] [] s.heap.size b := fun q => by rcases q with q | q | q; exact absurd q List.not_mem_nil; exact absurd q List.not_mem_nil; exact absurd hbl (Nat.not_lt.mpr q)
  have htb9 : t ≤ 9999 := hJ.1.2.2.1.2
  obtain ⟨⟨⟨hkx, hkm, hkq⟩, hR, ⟨htM, htb⟩, ⟨aC, hkC, hC⟩, ⟨aT, hkT, hT⟩, ⟨co, hkO, hO⟩, ⟨sp, hkS, hS9⟩, lc, eC, nC, mC, cf9, lt, eT, nT, mT, tf, hMo⟩, P, cf, bf, a9, q9, nc, t9, rfl, hSd⟩ := id hJ
  have hWa : zWa g aC 19998 := by rw [show aC = P 1 from Value.ref.inj (hC.symm.trans hSd.1.2.1.1)]; exact (hSd.1.wa hSd.2.2.2.2.2.1).mono2 (by have := hSd.2.2.2.2.1; omega)
  refine lv_aload_n hx hb dL_law_1139 rfl (lv_at hl 1 rfl) ?_
  refine z_ci hI (va_runV (As := []) (rest := []) ⟨hx, hb, hml, hown, hts⟩ (c_X8_holds l D tc z0 _ κ g _ (P 0) hkx  ) (cwV 0 hts gL_law_X8_holds rfl rfl rfl (by decide +kernel) ⟨Nat.le_of_ble_eq_true rfl, Nat.le_of_ble_eq_true rfl⟩) (z_preV (Xc := []) hK hE hI [] rfl rfl (z_recv hK hI hkx rfl rfl)) rfl rfl hl.1 rfl (lv_room (Nat.le_of_ble_eq_true rfl)) dL_law_1140 ⟨(show 60 + 20 * k + 37 * t + 0 ≤ 798071 from by omega), (show 400 + 120 * k + 162 * t + 0 ≤ 6701890 from by omega)⟩) (fun v u H locs hw hI => ?_)
  have hw9 : u = (L, κ, g) := by first | exact hw | exact hw.2 | exact hw.2.2 | exact hw.2.2.2
  obtain rfl := hw9
  have hJ := hJ.more
  have hI : zI D tc (zA [] [] s.heap.size) s.heap [] L κ g H locs := hI
  refine lv_pop hx hb dL_law_1143 rfl ?_
  refine lv_aload_n hx hb dL_law_1144 rfl (lv_at hl 2 rfl) ?_
  obtain ⟨⟨⟨hkx, hkm, hkq⟩, hR, ⟨htM, htb⟩, ⟨aC, hkC, hC⟩, ⟨aT, hkT, hT⟩, ⟨co, hkO, hO⟩, ⟨sp, hkS, hS9⟩, lc, eC, nC, mC, cf9, lt, eT, nT, mT, tf, hMo⟩, -⟩ := id hJ
  refine z_ci hI (va_runV (As := []) (rest := []) ⟨hx, hb, hml, hown, hts⟩ (c_X11_holds l D tc z0 _ κ g _ pm hkm   ) (cwV 0 hts gL_law_X11_holds rfl rfl rfl (by decide +kernel) ⟨Nat.le_of_ble_eq_true rfl, Nat.le_of_ble_eq_true rfl⟩) (z_preV (Xc := []) hK hE hI [] rfl rfl (z_recv hK hI hkm rfl rfl)) rfl rfl hl.1 rfl (lv_room (Nat.le_of_ble_eq_true rfl)) dL_law_1145 ⟨(show 60 + 20 * k + 37 * t + 0 + 0 ≤ 798071 from by omega), (show 400 + 120 * k + 162 * t + 0 + 0 ≤ 6701890 from by omega)⟩) (fun w u H locs hw hI => ?_)
  obtain ⟨-, rfl⟩ := hw
  have hJ := hJ.upM (j := 12) (v := .int 0) (by decide)
  have hI : zI D tc (zA [] [] s.heap.size) s.heap [] L κ (zup g pm 12 (.int 0)) H locs := hI
  generalize (zup g pm 12 (.int 0)) = g at hI hJ
  refine lv_pop hx hb dL_law_1148 rfl ?_
  refine lv_goto (tgt := 1364) hx hb dL_law_1149 (by decide) ?_
  have hl := lv_sub hl [0, 1, 2, 3, 4, 5] (l' := [(0, .ref b), (1, .ref (P 0)), (2, .ref pm), (3, .ref po), (4, .ref pd), (5, .int (nI (4 * k)))]) rfl
  refine W.widen (k := 60 + 20 * (k + 1) + 37 * t) (n := 400 + 120 * (k + 1) + 162 * t) (by omega) (by omega) ?_
  refine W.base ?_
  exact hN s.drawn L κ g _ _ _ _ (Drawn.sameBut.refl _ _) hJ hko hkd hI hl

set_option maxHeartbeats 4000000 in
set_option maxRecDepth 100000 in
theorem k_why (l : Launch) (hnt : l.stackTraces = false) {p : Program} {e : Env} {s : State} {m : MethodId} {below : List Frame} {meth : Method} {c : Code} {H : Heap} {locs : List Loc} {Q : State → Prop} {D : va_G} {tc : Nat → ClassId} {z0 b N : Nat} {xs : Nat → Int32} {px pm po pd rq t k : Nat} {L : List Nat} {κ : Nat → Nat} {g : Nat → Nat → Value} {ls : Array Slot} (C : lwC p s m meth c b N xs D tc z0) (hk : 4 * k + 4 ≤ N) (hN8 : N ≤ 2048) (hJ : zJ κ g z0 px pm rq t k) (hko : κ po = 29) (hkd : κ pd = 30) (hI : zI D tc (zA [] [] s.heap.size) s.heap [] L κ g H locs) (hl : lv_has ls 9 [(0, .ref b), (1, .ref px), (2, .ref pm), (3, .ref po), (4, .ref pd), (5, .int (nI (4 * k)))]) (hN : lwN p l e s m below meth c b D tc z0 px pm po pd rq k Q) : W p l e room_1 s m #[Value.ref b] below meth c H locs (60 + 20 * k + 37 * t) (400 + 120 * k + 162 * t) Q (F0 m 1152 ls []) := by
  obtain ⟨hx, hb, hml, hown, hts, hK, hE, hX, hbl⟩ := C
  have hbA : ¬ zA [] [] s.heap.size b := fun q => by rcases q with q | q | q; exact absurd q List.not_mem_nil; exact absurd q List.not_mem_nil; exact absurd hbl (Nat.not_lt.mpr q)
  have htb9 : t ≤ 9999 := hJ.1.2.2.1.2
  obtain ⟨⟨⟨hkx, hkm, hkq⟩, hR, ⟨htM, htb⟩, ⟨aC, hkC, hC⟩, ⟨aT, hkT, hT⟩, ⟨co, hkO, hO⟩, ⟨sp, hkS, hS9⟩, lc, eC, nC, mC, cf9, lt, eT, nT, mT, tf, hMo⟩, P, cf, bf, a9, q9, nc, t9, rfl, hSd⟩ := id hJ
  have hWa : zWa g aC 19998 := by rw [show aC = P 1 from Value.ref.inj (hC.symm.trans hSd.1.2.1.1)]; exact (hSd.1.wa hSd.2.2.2.2.2.1).mono2 (by have := hSd.2.2.2.2.1; omega)
  refine lv_aload_n hx hb dL_law_1152 rfl (lv_at hl 1 rfl) ?_
  refine z_ci hI (va_runV (As := []) (rest := []) ⟨hx, hb, hml, hown, hts⟩ (c_X8_why l D tc z0 _ κ g _ (P 0) hkx  ) (cwV 0 hts gL_law_X8_why rfl rfl rfl (by decide +kernel) ⟨Nat.le_of_ble_eq_true rfl, Nat.le_of_ble_eq_true rfl⟩) (z_preV (Xc := []) hK hE hI [] rfl rfl (z_recv hK hI hkx rfl rfl)) rfl rfl hl.1 rfl (lv_room (Nat.le_of_ble_eq_true rfl)) dL_law_1153 ⟨(show 60 + 20 * k + 37 * t + 0 ≤ 798071 from by omega), (show 400 + 120 * k + 162 * t + 0 ≤ 6701890 from by omega)⟩) (fun v u H locs hw hI => ?_)
  have hw9 : u = (L, κ, g) := by first | exact hw | exact hw.2 | exact hw.2.2 | exact hw.2.2.2
  obtain rfl := hw9
  have hJ := hJ.more
  have hI : zI D tc (zA [] [] s.heap.size) s.heap [] L κ g H locs := hI
  refine lv_pop hx hb dL_law_1156 rfl ?_
  refine lv_aload_n hx hb dL_law_1157 rfl (lv_at hl 2 rfl) ?_
  obtain ⟨⟨⟨hkx, hkm, hkq⟩, hR, ⟨htM, htb⟩, ⟨aC, hkC, hC⟩, ⟨aT, hkT, hT⟩, ⟨co, hkO, hO⟩, ⟨sp, hkS, hS9⟩, lc, eC, nC, mC, cf9, lt, eT, nT, mT, tf, hMo⟩, -⟩ := id hJ
  refine z_ci hI (va_runV (As := []) (rest := []) ⟨hx, hb, hml, hown, hts⟩ (c_X11_why l D tc z0 _ κ g _ pm hkm   ) (cwV 0 hts gL_law_X11_why rfl rfl rfl (by decide +kernel) ⟨Nat.le_of_ble_eq_true rfl, Nat.le_of_ble_eq_true rfl⟩) (z_preV (Xc := []) hK hE hI [] rfl rfl (z_recv hK hI hkm rfl rfl)) rfl rfl hl.1 rfl (lv_room (Nat.le_of_ble_eq_true rfl)) dL_law_1158 ⟨(show 60 + 20 * k + 37 * t + 0 + 0 ≤ 798071 from by omega), (show 400 + 120 * k + 162 * t + 0 + 0 ≤ 6701890 from by omega)⟩) (fun w u H locs hw hI => ?_)
  obtain ⟨-, rfl⟩ := hw
  have hJ := hJ.upM (j := 12) (v := .int 0) (by decide)
  have hI : zI D tc (zA [] [] s.heap.size) s.heap [] L κ (zup g pm 12 (.int 0)) H locs := hI
  generalize (zup g pm 12 (.int 0)) = g at hI hJ
  refine lv_pop hx hb dL_law_1161 rfl ?_
  refine lv_goto (tgt := 1364) hx hb dL_law_1162 (by decide) ?_
  have hl := lv_sub hl [0, 1, 2, 3, 4, 5] (l' := [(0, .ref b), (1, .ref (P 0)), (2, .ref pm), (3, .ref po), (4, .ref pd), (5, .int (nI (4 * k)))]) rfl
  refine W.widen (k := 60 + 20 * (k + 1) + 37 * t) (n := 400 + 120 * (k + 1) + 162 * t) (by omega) (by omega) ?_
  refine W.base ?_
  exact hN s.drawn L κ g _ _ _ _ (Drawn.sameBut.refl _ _) hJ hko hkd hI hl

set_option maxHeartbeats 4000000 in
set_option maxRecDepth 100000 in
theorem k_drop (l : Launch) (hnt : l.stackTraces = false) {p : Program} {e : Env} {s : State} {m : MethodId} {below : List Frame} {meth : Method} {c : Code} {H : Heap} {locs : List Loc} {Q : State → Prop} {D : va_G} {tc : Nat → ClassId} {z0 b N : Nat} {xs : Nat → Int32} {px pm po pd rq t k : Nat} {L : List Nat} {κ : Nat → Nat} {g : Nat → Nat → Value} {ls : Array Slot} (C : lwC p s m meth c b N xs D tc z0) (hk : 4 * k + 4 ≤ N) (hN8 : N ≤ 2048) (hJ : zJ κ g z0 px pm rq t k) (hko : κ po = 29) (hkd : κ pd = 30) (hI : zI D tc (zA [] [] s.heap.size) s.heap [] L κ g H locs) (hl : lv_has ls 9 [(0, .ref b), (1, .ref px), (2, .ref pm), (3, .ref po), (4, .ref pd), (5, .int (nI (4 * k)))]) (hN : lwN p l e s m below meth c b D tc z0 px pm po pd rq k Q) : W p l e room_1 s m #[Value.ref b] below meth c H locs (60 + 20 * k + 37 * t) (400 + 120 * k + 162 * t) Q (F0 m 1165 ls []) := by
  obtain ⟨hx, hb, hml, hown, hts, hK, hE, hX, hbl⟩ := C
  have hbA : ¬ zA [] [] s.heap.size b := fun q => by rcases q with q | q | q; exact absurd q List.not_mem_nil; exact absurd q List.not_mem_nil; exact absurd hbl (Nat.not_lt.mpr q)
  have htb9 : t ≤ 9999 := hJ.1.2.2.1.2
  obtain ⟨⟨⟨hkx, hkm, hkq⟩, hR, ⟨htM, htb⟩, ⟨aC, hkC, hC⟩, ⟨aT, hkT, hT⟩, ⟨co, hkO, hO⟩, ⟨sp, hkS, hS9⟩, lc, eC, nC, mC, cf9, lt, eT, nT, mT, tf, hMo⟩, P, cf, bf, a9, q9, nc, t9, rfl, hSd⟩ := id hJ
  have hWa : zWa g aC 19998 := by rw [show aC = P 1 from Value.ref.inj (hC.symm.trans hSd.1.2.1.1)]; exact (hSd.1.wa hSd.2.2.2.2.2.1).mono2 (by have := hSd.2.2.2.2.1; omega)
  refine lv_aload_n hx hb dL_law_1165 rfl (lv_at hl 1 rfl) ?_
  refine z_ci hI (va_runV (As := []) (rest := []) ⟨hx, hb, hml, hown, hts⟩ (c_X8_drop l D tc z0 _ κ g _ (P 0) hkx  ) (cwV 0 hts gL_law_X8_drop rfl rfl rfl (by decide +kernel) ⟨Nat.le_of_ble_eq_true rfl, Nat.le_of_ble_eq_true rfl⟩) (z_preV (Xc := []) hK hE hI [] rfl rfl (z_recv hK hI hkx rfl rfl)) rfl rfl hl.1 rfl (lv_room (Nat.le_of_ble_eq_true rfl)) dL_law_1166 ⟨(show 60 + 20 * k + 37 * t + 0 ≤ 798071 from by omega), (show 400 + 120 * k + 162 * t + 0 ≤ 6701890 from by omega)⟩) (fun v u H locs hw hI => ?_)
  have hw9 : u = (L, κ, g) := by first | exact hw | exact hw.2 | exact hw.2.2 | exact hw.2.2.2
  obtain rfl := hw9
  have hJ := hJ.more
  have hI : zI D tc (zA [] [] s.heap.size) s.heap [] L κ g H locs := hI
  refine lv_pop hx hb dL_law_1169 rfl ?_
  refine lv_aload_n hx hb dL_law_1170 rfl (lv_at hl 2 rfl) ?_
  obtain ⟨⟨⟨hkx, hkm, hkq⟩, hR, ⟨htM, htb⟩, ⟨aC, hkC, hC⟩, ⟨aT, hkT, hT⟩, ⟨co, hkO, hO⟩, ⟨sp, hkS, hS9⟩, lc, eC, nC, mC, cf9, lt, eT, nT, mT, tf, hMo⟩, -⟩ := id hJ
  obtain ⟨h9, hh9⟩ := z_gi (j := 14) hI hkm rfl rfl
  obtain ⟨w9, hw9⟩ := z_gi (j := 16) hI hkm rfl rfl
  refine z_ci hI (va_runV (As := []) (rest := []) ⟨hx, hb, hml, hown, hts⟩ (c_X11_drop l D tc z0 _ κ g _ pm hkm   h9 w9 hh9 hw9) (cwV 0 hts gL_law_X11_drop rfl rfl rfl (by decide +kernel) ⟨Nat.le_of_ble_eq_true rfl, Nat.le_of_ble_eq_true rfl⟩) (z_preV (Xc := []) hK hE hI [] rfl rfl (z_recv hK hI hkm rfl rfl)) rfl rfl hl.1 rfl (lv_room (Nat.le_of_ble_eq_true rfl)) dL_law_1171 ⟨(show 60 + 20 * k + 37 * t + 0 + 0 ≤ 798071 from by omega), (show 400 + 120 * k + 162 * t + 0 + 0 ≤ 6701890 from by omega)⟩) (fun w u H locs hw hI => ?_)
  obtain ⟨-, rfl⟩ := hw
  have hJ := ((hJ.upM (j := 12) (v := .int 0) (by decide)).upM (j := 14) (v := .int 0) (by decide)).upM (j := 16) (v := .int 0) (by decide)
  have hI : zI D tc (zA [] [] s.heap.size) s.heap [] L κ (zup (zup (zup g pm 12 (.int 0)) pm 14 (.int 0)) pm 16 (.int 0)) H locs := hI
  generalize (zup (zup (zup g pm 12 (.int 0)) pm 14 (.int 0)) pm 16 (.int 0)) = g at hI hJ
  refine lv_pop hx hb dL_law_1174 rfl ?_
  refine lv_goto (tgt := 1364) hx hb dL_law_1175 (by decide) ?_
  have hl := lv_sub hl [0, 1, 2, 3, 4, 5] (l' := [(0, .ref b), (1, .ref (P 0)), (2, .ref pm), (3, .ref po), (4, .ref pd), (5, .int (nI (4 * k)))]) rfl
  refine W.widen (k := 60 + 20 * (k + 1) + 37 * t) (n := 400 + 120 * (k + 1) + 162 * t) (by omega) (by omega) ?_
  refine W.base ?_
  exact hN s.drawn L κ g _ _ _ _ (Drawn.sameBut.refl _ _) hJ hko hkd hI hl

set_option maxHeartbeats 4000000 in
set_option maxRecDepth 100000 in
theorem k_age (l : Launch) (hnt : l.stackTraces = false) {p : Program} {e : Env} {s : State} {m : MethodId} {below : List Frame} {meth : Method} {c : Code} {H : Heap} {locs : List Loc} {Q : State → Prop} {D : va_G} {tc : Nat → ClassId} {z0 b N : Nat} {xs : Nat → Int32} {px pm po pd rq t k : Nat} {L : List Nat} {κ : Nat → Nat} {g : Nat → Nat → Value} {ls : Array Slot} (C : lwC p s m meth c b N xs D tc z0) (hk : 4 * k + 4 ≤ N) (hN8 : N ≤ 2048) (hJ : zJ κ g z0 px pm rq t k) (hko : κ po = 29) (hkd : κ pd = 30) (hI : zI D tc (zA [] [] s.heap.size) s.heap [] L κ g H locs) (hl : lv_has ls 9 [(0, .ref b), (1, .ref px), (2, .ref pm), (3, .ref po), (4, .ref pd), (5, .int (nI (4 * k)))]) (hN : lwN p l e s m below meth c b D tc z0 px pm po pd rq k Q) : W p l e room_1 s m #[Value.ref b] below meth c H locs (60 + 20 * k + 37 * t) (400 + 120 * k + 162 * t) Q (F0 m 1178 ls []) := by
  obtain ⟨hx, hb, hml, hown, hts, hK, hE, hX, hbl⟩ := C
  have hbA : ¬ zA [] [] s.heap.size b := fun q => by rcases q with q | q | q; exact absurd q List.not_mem_nil; exact absurd q List.not_mem_nil; exact absurd hbl (Nat.not_lt.mpr q)
  have htb9 : t ≤ 9999 := hJ.1.2.2.1.2
  obtain ⟨⟨⟨hkx, hkm, hkq⟩, hR, ⟨htM, htb⟩, ⟨aC, hkC, hC⟩, ⟨aT, hkT, hT⟩, ⟨co, hkO, hO⟩, ⟨sp, hkS, hS9⟩, lc, eC, nC, mC, cf9, lt, eT, nT, mT, tf, hMo⟩, P, cf, bf, a9, q9, nc, t9, rfl, hSd⟩ := id hJ
  have hWa : zWa g aC 19998 := by rw [show aC = P 1 from Value.ref.inj (hC.symm.trans hSd.1.2.1.1)]; exact (hSd.1.wa hSd.2.2.2.2.2.1).mono2 (by have := hSd.2.2.2.2.1; omega)
  refine lv_aload_n hx hb dL_law_1178 rfl (lv_at hl 1 rfl) ?_
  refine lv_aload_n hx hb dL_law_1179 rfl (lv_at hl 0 rfl) ?_
  refine lv_iload hx hb dL_law_1180 (lv_at hl 5 rfl) ?_
  refine lv_iconst (v := 1) hx hb dL_law_1182 (by decide) ?_
  refine lv_iadd hx hb dL_law_1183 ?_
  rw [show nI (4 * k) + 1 = nI (4 * k + 1) from nI_add _ _]
  refine va_sld hx hb hX hbl hbA hI.2.1 (vp_in_nI (show 4 * k + 1 < N from by omega) (by omega)) dL_law_1184 ?_
  refine lv_aload_n hx hb dL_law_1185 rfl (lv_at hl 3 rfl) ?_
  refine z_xi hI (vx_runSX (As := [.ref (P 0), .int (xs (nI (4 * k + 1)).toNatClampNeg), .ref po]) (rest := []) ⟨hx, hb, hml, hown, hts⟩ (c_L_age l hnt D tc z0 _ κ g _ (P 0) hkx (xs (nI (4 * k + 1)).toNatClampNeg) po hko aC hC hWa) (vx_cwSW 3 hts gL_law_L_age rfl rfl rfl (by decide +kernel) ⟨Nat.le_of_ble_eq_true rfl, Nat.le_of_ble_eq_true rfl⟩) (z_pre (Xc := []) hK hE hI [] rfl rfl) rfl rfl hl.1 rfl (lv_room (Nat.le_of_ble_eq_true rfl)) dL_law_1186 ⟨(show 60 + 20 * k + 37 * t + 1 ≤ 798071 from by omega), (show 400 + 120 * k + 162 * t + 6 ≤ 6701890 from by omega)⟩) (fun E ce q9 u H locs hw hI he1 he2 he3 => hw.elim) (fun v u H locs hw hI => ?_)
  obtain ⟨L1, κ1, g1⟩ := u
  have hI : zI D tc (zA [] [] s.heap.size) s.heap [] L1 κ1 g1 H locs := hI
  have hJ : zJ κ1 g1 z0 (P 0) pm rq t (k + 1) ∧ κ1 po = 29 ∧ κ1 pd = 30 := by
    rcases hw with ⟨_, r1, u1, v9, hp, hu⟩ | ⟨_, hp⟩
    · cases hu
      have hp9 : u1 = (L, κ, g) := by first | exact hp | exact hp.2 | exact hp.2.2 | exact hp.2.2.2
      cases hp9
      exact ⟨(hJ.up hko (by decide)).more, hko, hkd⟩
    · obtain ⟨_, hp⟩ := hp
      cases hp
      exact ⟨hJ.more, hko, hkd⟩
  obtain ⟨hJ, hko, hkd⟩ := hJ
  clear hw
  obtain ⟨L, rfl⟩ : ∃ x, x = L1 := ⟨_, rfl⟩
  obtain ⟨κ, rfl⟩ : ∃ x, x = κ1 := ⟨_, rfl⟩
  obtain ⟨g, rfl⟩ : ∃ x, x = g1 := ⟨_, rfl⟩
  refine lv_istore (lv' := [(6, .int v), (0, .ref b), (1, .ref (P 0)), (2, .ref pm), (3, .ref po), (4, .ref pd), (5, .int (nI (4 * k)))]) hx hb dL_law_1189 hl (by decide) rfl (fun ls hl => ?_)
  refine lv_aload_n hx hb dL_law_1191 rfl (lv_at hl 3 rfl) ?_
  refine lv_aload_n hx hb dL_law_1192 rfl (lv_at hl 1 rfl) ?_
  refine lv_iload hx hb dL_law_1193 (lv_at hl 6 rfl) ?_
  refine lv_iconst (v := 1) hx hb dL_law_1195 (by decide) ?_
  refine lv_iadd hx hb dL_law_1196 ?_
  rw [show nI (4 * k) + 1 = nI (4 * k + 1) from nI_add _ _]
  refine va_sld hx hb hX hbl hbA hI.2.1 (vp_in_nI (show 4 * k + 1 < N from by omega) (by omega)) dL_law_1197 ?_
  obtain ⟨⟨⟨hkx, hkm, hkq⟩, hR, ⟨htM, htb⟩, ⟨aC, hkC, hC⟩, ⟨aT, hkT, hT⟩, ⟨co, hkO, hO⟩, ⟨sp, hkS, hS9⟩, lc, eC, nC, mC, cf9, lt, eT, nT, mT, tf, hMo⟩, -⟩ := id hJ
  refine z_ci hI (va_runV (As := [.int (xs (nI (4 * k + 1)).toNatClampNeg)]) (rest := []) ⟨hx, hb, hml, hown, hts⟩ (c_X11_age l D tc z0 _ κ g _ pm hkm (xs (nI (4 * k + 1)).toNatClampNeg) lc eC nC mC cf9 lt eT nT mT tf hMo ) (cwV 1 hts gL_law_X11_age rfl rfl rfl (by decide +kernel) ⟨Nat.le_of_ble_eq_true rfl, Nat.le_of_ble_eq_true rfl⟩) (z_preV (Xc := []) hK hE hI [] rfl rfl (z_recv hK hI hkm rfl rfl)) rfl rfl hl.1 rfl (lv_room (Nat.le_of_ble_eq_true rfl)) dL_law_1198 ⟨(show 60 + 20 * k + 37 * t + 1 + 0 ≤ 798071 from by omega), (show 400 + 120 * k + 162 * t + 6 + 0 ≤ 6701890 from by omega)⟩) (fun w u H locs hw hI => ?_)
  obtain ⟨x9, rfl⟩ := hw
  have hJ := hJ.upM (j := 12) (v := .int x9) (by decide)
  have hI : zI D tc (zA [] [] s.heap.size) s.heap [] L κ (zup g pm 12 (.int x9)) H locs := hI
  generalize (zup g pm 12 (.int x9)) = g at hI hJ
  refine lv_istore (lv' := [(7, .int w), (6, .int v), (0, .ref b), (1, .ref (P 0)), (2, .ref pm), (3, .ref po), (4, .ref pd), (5, .int (nI (4 * k)))]) hx hb dL_law_1201 hl (by decide) rfl (fun ls hl => ?_)
  refine lv_goto (tgt := 1364) hx hb dL_law_1203 (by decide) ?_
  have hl := lv_sub hl [2, 3, 4, 5, 6, 7] (l' := [(0, .ref b), (1, .ref (P 0)), (2, .ref pm), (3, .ref po), (4, .ref pd), (5, .int (nI (4 * k)))]) rfl
  refine W.widen (k := 60 + 20 * (k + 1) + 37 * t) (n := 400 + 120 * (k + 1) + 162 * t) (by omega) (by omega) ?_
  refine W.base ?_
  exact hN s.drawn L κ g _ _ _ _ (Drawn.sameBut.refl _ _) hJ hko hkd hI hl

set_option maxHeartbeats 4000000 in
set_option maxRecDepth 100000 in
theorem k_isRetired (l : Launch) (hnt : l.stackTraces = false) {p : Program} {e : Env} {s : State} {m : MethodId} {below : List Frame} {meth : Method} {c : Code} {H : Heap} {locs : List Loc} {Q : State → Prop} {D : va_G} {tc : Nat → ClassId} {z0 b N : Nat} {xs : Nat → Int32} {px pm po pd rq t k : Nat} {L : List Nat} {κ : Nat → Nat} {g : Nat → Nat → Value} {ls : Array Slot} (C : lwC p s m meth c b N xs D tc z0) (hk : 4 * k + 4 ≤ N) (hN8 : N ≤ 2048) (hJ : zJ κ g z0 px pm rq t k) (hko : κ po = 29) (hkd : κ pd = 30) (hI : zI D tc (zA [] [] s.heap.size) s.heap [] L κ g H locs) (hl : lv_has ls 9 [(0, .ref b), (1, .ref px), (2, .ref pm), (3, .ref po), (4, .ref pd), (5, .int (nI (4 * k)))]) (hN : lwN p l e s m below meth c b D tc z0 px pm po pd rq k Q) : W p l e room_1 s m #[Value.ref b] below meth c H locs (60 + 20 * k + 37 * t) (400 + 120 * k + 162 * t) Q (F0 m 1206 ls []) := by
  obtain ⟨hx, hb, hml, hown, hts, hK, hE, hX, hbl⟩ := C
  have hbA : ¬ zA [] [] s.heap.size b := fun q => by rcases q with q | q | q; exact absurd q List.not_mem_nil; exact absurd q List.not_mem_nil; exact absurd hbl (Nat.not_lt.mpr q)
  have htb9 : t ≤ 9999 := hJ.1.2.2.1.2
  obtain ⟨⟨⟨hkx, hkm, hkq⟩, hR, ⟨htM, htb⟩, ⟨aC, hkC, hC⟩, ⟨aT, hkT, hT⟩, ⟨co, hkO, hO⟩, ⟨sp, hkS, hS9⟩, lc, eC, nC, mC, cf9, lt, eT, nT, mT, tf, hMo⟩, P, cf, bf, a9, q9, nc, t9, rfl, hSd⟩ := id hJ
  have hWa : zWa g aC 19998 := by rw [show aC = P 1 from Value.ref.inj (hC.symm.trans hSd.1.2.1.1)]; exact (hSd.1.wa hSd.2.2.2.2.2.1).mono2 (by have := hSd.2.2.2.2.1; omega)
  refine lv_aload_n hx hb dL_law_1206 rfl (lv_at hl 1 rfl) ?_
  refine lv_aload_n hx hb dL_law_1207 rfl (lv_at hl 0 rfl) ?_
  refine lv_iload hx hb dL_law_1208 (lv_at hl 5 rfl) ?_
  refine lv_iconst (v := 1) hx hb dL_law_1210 (by decide) ?_
  refine lv_iadd hx hb dL_law_1211 ?_
  rw [show nI (4 * k) + 1 = nI (4 * k + 1) from nI_add _ _]
  refine va_sld hx hb hX hbl hbA hI.2.1 (vp_in_nI (show 4 * k + 1 < N from by omega) (by omega)) dL_law_1212 ?_
  refine lv_aload_n hx hb dL_law_1213 rfl (lv_at hl 3 rfl) ?_
  refine z_xi hI (vx_runSX (As := [.ref (P 0), .int (xs (nI (4 * k + 1)).toNatClampNeg), .ref po]) (rest := []) ⟨hx, hb, hml, hown, hts⟩ (c_L_isRetired l hnt D tc z0 _ κ g _ (P 0) hkx (xs (nI (4 * k + 1)).toNatClampNeg) po hko aC hC hWa) (vx_cwSW 3 hts gL_law_L_isRetired rfl rfl rfl (by decide +kernel) ⟨Nat.le_of_ble_eq_true rfl, Nat.le_of_ble_eq_true rfl⟩) (z_pre (Xc := []) hK hE hI [] rfl rfl) rfl rfl hl.1 rfl (lv_room (Nat.le_of_ble_eq_true rfl)) dL_law_1214 ⟨(show 60 + 20 * k + 37 * t + 1 ≤ 798071 from by omega), (show 400 + 120 * k + 162 * t + 6 ≤ 6701890 from by omega)⟩) (fun E ce q9 u H locs hw hI he1 he2 he3 => hw.elim) (fun v u H locs hw hI => ?_)
  obtain ⟨L1, κ1, g1⟩ := u
  have hI : zI D tc (zA [] [] s.heap.size) s.heap [] L1 κ1 g1 H locs := hI
  have hJ : zJ κ1 g1 z0 (P 0) pm rq t (k + 1) ∧ κ1 po = 29 ∧ κ1 pd = 30 := by
    rcases hw with ⟨_, r1, u1, v9, hp, hu⟩ | ⟨_, hp⟩
    · cases hu
      have hp9 : u1 = (L, κ, g) := by first | exact hp | exact hp.2 | exact hp.2.2 | exact hp.2.2.2
      cases hp9
      exact ⟨(hJ.up hko (by decide)).more, hko, hkd⟩
    · obtain ⟨_, hp⟩ := hp
      cases hp
      exact ⟨hJ.more, hko, hkd⟩
  obtain ⟨hJ, hko, hkd⟩ := hJ
  clear hw
  obtain ⟨L, rfl⟩ : ∃ x, x = L1 := ⟨_, rfl⟩
  obtain ⟨κ, rfl⟩ : ∃ x, x = κ1 := ⟨_, rfl⟩
  obtain ⟨g, rfl⟩ : ∃ x, x = g1 := ⟨_, rfl⟩
  refine lv_istore (lv' := [(6, .int v), (0, .ref b), (1, .ref (P 0)), (2, .ref pm), (3, .ref po), (4, .ref pd), (5, .int (nI (4 * k)))]) hx hb dL_law_1217 hl (by decide) rfl (fun ls hl => ?_)
  refine lv_aload_n hx hb dL_law_1219 rfl (lv_at hl 3 rfl) ?_
  refine lv_aload_n hx hb dL_law_1220 rfl (lv_at hl 1 rfl) ?_
  refine lv_iload hx hb dL_law_1221 (lv_at hl 6 rfl) ?_
  refine lv_iconst (v := 1) hx hb dL_law_1223 (by decide) ?_
  refine lv_iadd hx hb dL_law_1224 ?_
  rw [show nI (4 * k) + 1 = nI (4 * k + 1) from nI_add _ _]
  refine va_sld hx hb hX hbl hbA hI.2.1 (vp_in_nI (show 4 * k + 1 < N from by omega) (by omega)) dL_law_1225 ?_
  obtain ⟨⟨⟨hkx, hkm, hkq⟩, hR, ⟨htM, htb⟩, ⟨aC, hkC, hC⟩, ⟨aT, hkT, hT⟩, ⟨co, hkO, hO⟩, ⟨sp, hkS, hS9⟩, lc, eC, nC, mC, cf9, lt, eT, nT, mT, tf, hMo⟩, -⟩ := id hJ
  refine z_ci hI (va_runV (As := [.int (xs (nI (4 * k + 1)).toNatClampNeg)]) (rest := []) ⟨hx, hb, hml, hown, hts⟩ (c_X11_isRetired l D tc z0 _ κ g _ pm hkm (xs (nI (4 * k + 1)).toNatClampNeg) lc eC nC mC cf9 lt eT nT mT tf hMo ) (cwV 1 hts gL_law_X11_isRetired rfl rfl rfl (by decide +kernel) ⟨Nat.le_of_ble_eq_true rfl, Nat.le_of_ble_eq_true rfl⟩) (z_preV (Xc := []) hK hE hI [] rfl rfl (z_recv hK hI hkm rfl rfl)) rfl rfl hl.1 rfl (lv_room (Nat.le_of_ble_eq_true rfl)) dL_law_1226 ⟨(show 60 + 20 * k + 37 * t + 1 + 0 ≤ 798071 from by omega), (show 400 + 120 * k + 162 * t + 6 + 0 ≤ 6701890 from by omega)⟩) (fun w u H locs hw hI => ?_)
  obtain ⟨x9, rfl⟩ := hw
  have hJ := hJ.upM (j := 12) (v := .int x9) (by decide)
  have hI : zI D tc (zA [] [] s.heap.size) s.heap [] L κ (zup g pm 12 (.int x9)) H locs := hI
  generalize (zup g pm 12 (.int x9)) = g at hI hJ
  refine lv_istore (lv' := [(7, .int w), (6, .int v), (0, .ref b), (1, .ref (P 0)), (2, .ref pm), (3, .ref po), (4, .ref pd), (5, .int (nI (4 * k)))]) hx hb dL_law_1229 hl (by decide) rfl (fun ls hl => ?_)
  refine lv_goto (tgt := 1364) hx hb dL_law_1231 (by decide) ?_
  have hl := lv_sub hl [2, 3, 4, 5, 6, 7] (l' := [(0, .ref b), (1, .ref (P 0)), (2, .ref pm), (3, .ref po), (4, .ref pd), (5, .int (nI (4 * k)))]) rfl
  refine W.widen (k := 60 + 20 * (k + 1) + 37 * t) (n := 400 + 120 * (k + 1) + 162 * t) (by omega) (by omega) ?_
  refine W.base ?_
  exact hN s.drawn L κ g _ _ _ _ (Drawn.sameBut.refl _ _) hJ hko hkd hI hl

set_option maxHeartbeats 4000000 in
set_option maxRecDepth 100000 in
theorem k_wear (l : Launch) (hnt : l.stackTraces = false) {p : Program} {e : Env} {s : State} {m : MethodId} {below : List Frame} {meth : Method} {c : Code} {H : Heap} {locs : List Loc} {Q : State → Prop} {D : va_G} {tc : Nat → ClassId} {z0 b N : Nat} {xs : Nat → Int32} {px pm po pd rq t k : Nat} {L : List Nat} {κ : Nat → Nat} {g : Nat → Nat → Value} {ls : Array Slot} (C : lwC p s m meth c b N xs D tc z0) (hk : 4 * k + 4 ≤ N) (hN8 : N ≤ 2048) (hJ : zJ κ g z0 px pm rq t k) (hko : κ po = 29) (hkd : κ pd = 30) (hI : zI D tc (zA [] [] s.heap.size) s.heap [] L κ g H locs) (hl : lv_has ls 9 [(0, .ref b), (1, .ref px), (2, .ref pm), (3, .ref po), (4, .ref pd), (5, .int (nI (4 * k)))]) (hN : lwN p l e s m below meth c b D tc z0 px pm po pd rq k Q) : W p l e room_1 s m #[Value.ref b] below meth c H locs (60 + 20 * k + 37 * t) (400 + 120 * k + 162 * t) Q (F0 m 1234 ls []) := by
  obtain ⟨hx, hb, hml, hown, hts, hK, hE, hX, hbl⟩ := C
  have hbA : ¬ zA [] [] s.heap.size b := fun q => by rcases q with q | q | q; exact absurd q List.not_mem_nil; exact absurd q List.not_mem_nil; exact absurd hbl (Nat.not_lt.mpr q)
  have htb9 : t ≤ 9999 := hJ.1.2.2.1.2
  obtain ⟨⟨⟨hkx, hkm, hkq⟩, hR, ⟨htM, htb⟩, ⟨aC, hkC, hC⟩, ⟨aT, hkT, hT⟩, ⟨co, hkO, hO⟩, ⟨sp, hkS, hS9⟩, lc, eC, nC, mC, cf9, lt, eT, nT, mT, tf, hMo⟩, P, cf, bf, a9, q9, nc, t9, rfl, hSd⟩ := id hJ
  have hWa : zWa g aC 19998 := by rw [show aC = P 1 from Value.ref.inj (hC.symm.trans hSd.1.2.1.1)]; exact (hSd.1.wa hSd.2.2.2.2.2.1).mono2 (by have := hSd.2.2.2.2.1; omega)
  refine lv_aload_n hx hb dL_law_1234 rfl (lv_at hl 1 rfl) ?_
  refine lv_aload_n hx hb dL_law_1235 rfl (lv_at hl 0 rfl) ?_
  refine lv_iload hx hb dL_law_1236 (lv_at hl 5 rfl) ?_
  refine lv_iconst (v := 1) hx hb dL_law_1238 (by decide) ?_
  refine lv_iadd hx hb dL_law_1239 ?_
  rw [show nI (4 * k) + 1 = nI (4 * k + 1) from nI_add _ _]
  refine va_sld hx hb hX hbl hbA hI.2.1 (vp_in_nI (show 4 * k + 1 < N from by omega) (by omega)) dL_law_1240 ?_
  refine lv_aload_n hx hb dL_law_1241 rfl (lv_at hl 0 rfl) ?_
  refine lv_iload hx hb dL_law_1242 (lv_at hl 5 rfl) ?_
  refine lv_iconst (v := 2) hx hb dL_law_1244 (by decide) ?_
  refine lv_iadd hx hb dL_law_1245 ?_
  rw [show nI (4 * k) + 2 = nI (4 * k + 2) from nI_add _ _]
  refine va_sld hx hb hX hbl hbA hI.2.1 (vp_in_nI (show 4 * k + 2 < N from by omega) (by omega)) dL_law_1246 ?_
  refine lv_aload_n hx hb dL_law_1247 rfl (lv_at hl 3 rfl) ?_
  refine z_xi hI (vx_runSX (As := [.ref (P 0), .int (xs (nI (4 * k + 1)).toNatClampNeg), .int (xs (nI (4 * k + 2)).toNatClampNeg), .ref po]) (rest := []) ⟨hx, hb, hml, hown, hts⟩ (c_L_wear l hnt D tc z0 _ κ g _ P hkx (xs (nI (4 * k + 1)).toNatClampNeg) (xs (nI (4 * k + 2)).toNatClampNeg) po hko cf bf a9 q9 nc t9 k hSd) (vx_cwSW 4 hts gL_law_L_wear rfl rfl rfl (by decide +kernel) ⟨Nat.le_of_ble_eq_true rfl, Nat.le_of_ble_eq_true rfl⟩) (z_pre (Xc := []) hK hE hI [] rfl rfl) rfl rfl hl.1 rfl (lv_room (Nat.le_of_ble_eq_true rfl)) dL_law_1248 ⟨(show 60 + 20 * k + 37 * t + 2 ≤ 798071 from by omega), (show 400 + 120 * k + 162 * t + 12 ≤ 6701890 from by omega)⟩) (fun E ce q9 u H locs hw hI he1 he2 he3 => hw.elim) (fun v u H locs hw hI => ?_)
  obtain ⟨L1, κ1, g1⟩ := u
  have hI : zI D tc (zA [] [] s.heap.size) s.heap [] L1 κ1 g1 H locs := hI
  have hJ : zJ κ1 g1 z0 (P 0) pm rq t (k + 1) ∧ κ1 po = 29 ∧ κ1 pd = 30 := by
    rcases hw with ⟨_, r1, u1, v9, hp, hu⟩ | ⟨_, hp⟩ | ⟨_, hp⟩ | ⟨_, hp⟩
    · cases hu
      obtain ⟨g9, h8, hS8, ho8⟩ := hp
      obtain ⟨L9, κ9, g8⟩ := u1
      cases h8
      exact ⟨(zJ.mk (hJ.1.out ho8) hS8).up hko (by decide), hko, hkd⟩
    · obtain ⟨_, hp⟩ := hp
      cases hp
      exact ⟨hJ.more, hko, hkd⟩
    · obtain ⟨_, hp⟩ := hp
      cases hp
      exact ⟨hJ.more, hko, hkd⟩
    · obtain ⟨_, hp⟩ := hp
      cases hp
      exact ⟨hJ.more, hko, hkd⟩
  obtain ⟨hJ, hko, hkd⟩ := hJ
  clear hw
  obtain ⟨L, rfl⟩ : ∃ x, x = L1 := ⟨_, rfl⟩
  obtain ⟨κ, rfl⟩ : ∃ x, x = κ1 := ⟨_, rfl⟩
  obtain ⟨g, rfl⟩ : ∃ x, x = g1 := ⟨_, rfl⟩
  refine lv_istore (lv' := [(6, .int v), (0, .ref b), (1, .ref (P 0)), (2, .ref pm), (3, .ref po), (4, .ref pd), (5, .int (nI (4 * k)))]) hx hb dL_law_1251 hl (by decide) rfl (fun ls hl => ?_)
  refine lv_aload_n hx hb dL_law_1253 rfl (lv_at hl 3 rfl) ?_
  refine lv_aload_n hx hb dL_law_1254 rfl (lv_at hl 1 rfl) ?_
  refine lv_iload hx hb dL_law_1255 (lv_at hl 6 rfl) ?_
  refine lv_iconst (v := 1) hx hb dL_law_1257 (by decide) ?_
  refine lv_iadd hx hb dL_law_1258 ?_
  rw [show nI (4 * k) + 1 = nI (4 * k + 1) from nI_add _ _]
  refine va_sld hx hb hX hbl hbA hI.2.1 (vp_in_nI (show 4 * k + 1 < N from by omega) (by omega)) dL_law_1259 ?_
  refine lv_aload_n hx hb dL_law_1260 rfl (lv_at hl 1 rfl) ?_
  refine lv_iload hx hb dL_law_1261 (lv_at hl 6 rfl) ?_
  refine lv_iconst (v := 2) hx hb dL_law_1263 (by decide) ?_
  refine lv_iadd hx hb dL_law_1264 ?_
  rw [show nI (4 * k) + 2 = nI (4 * k + 2) from nI_add _ _]
  refine va_sld hx hb hX hbl hbA hI.2.1 (vp_in_nI (show 4 * k + 2 < N from by omega) (by omega)) dL_law_1265 ?_
  obtain ⟨⟨⟨hkx, hkm, hkq⟩, hR, ⟨htM, htb⟩, ⟨aC, hkC, hC⟩, ⟨aT, hkT, hT⟩, ⟨co, hkO, hO⟩, ⟨sp, hkS, hS9⟩, lc, eC, nC, mC, cf9, lt, eT, nT, mT, tf, hMo⟩, -⟩ := id hJ
  refine z_ci hI (va_runV (As := [.int (xs (nI (4 * k + 1)).toNatClampNeg), .int (xs (nI (4 * k + 2)).toNatClampNeg)]) (rest := []) ⟨hx, hb, hml, hown, hts⟩ (c_X11_wear l D tc z0 _ κ g _ pm hkm (xs (nI (4 * k + 1)).toNatClampNeg) (xs (nI (4 * k + 2)).toNatClampNeg) lc eC nC mC cf9 lt eT nT mT tf hMo ) (cwV 2 hts gL_law_X11_wear rfl rfl rfl (by decide +kernel) ⟨Nat.le_of_ble_eq_true rfl, Nat.le_of_ble_eq_true rfl⟩) (z_preV (Xc := []) hK hE hI [] rfl rfl (z_recv hK hI hkm rfl rfl)) rfl rfl hl.1 rfl (lv_room (Nat.le_of_ble_eq_true rfl)) dL_law_1266 ⟨(show 60 + 20 * k + 37 * t + 2 + 0 ≤ 798071 from by omega), (show 400 + 120 * k + 162 * t + 12 + 0 ≤ 6701890 from by omega)⟩) (fun w u H locs hw hI => ?_)
  obtain ⟨x9, rfl⟩ := hw
  have hJ := hJ.upM (j := 12) (v := .int x9) (by decide)
  have hI : zI D tc (zA [] [] s.heap.size) s.heap [] L κ (zup g pm 12 (.int x9)) H locs := hI
  generalize (zup g pm 12 (.int x9)) = g at hI hJ
  refine lv_istore (lv' := [(7, .int w), (6, .int v), (0, .ref b), (1, .ref (P 0)), (2, .ref pm), (3, .ref po), (4, .ref pd), (5, .int (nI (4 * k)))]) hx hb dL_law_1269 hl (by decide) rfl (fun ls hl => ?_)
  refine lv_goto (tgt := 1364) hx hb dL_law_1271 (by decide) ?_
  have hl := lv_sub hl [2, 3, 4, 5, 6, 7] (l' := [(0, .ref b), (1, .ref (P 0)), (2, .ref pm), (3, .ref po), (4, .ref pd), (5, .int (nI (4 * k)))]) rfl
  refine W.widen (k := 60 + 20 * (k + 1) + 37 * t) (n := 400 + 120 * (k + 1) + 162 * t) (by omega) (by omega) ?_
  refine W.base ?_
  exact hN s.drawn L κ g _ _ _ _ (Drawn.sameBut.refl _ _) hJ hko hkd hI hl

set_option maxHeartbeats 4000000 in
set_option maxRecDepth 100000 in
theorem k_account (l : Launch) (hnt : l.stackTraces = false) {p : Program} {e : Env} {s : State} {m : MethodId} {below : List Frame} {meth : Method} {c : Code} {H : Heap} {locs : List Loc} {Q : State → Prop} {D : va_G} {tc : Nat → ClassId} {z0 b N : Nat} {xs : Nat → Int32} {px pm po pd rq t k : Nat} {L : List Nat} {κ : Nat → Nat} {g : Nat → Nat → Value} {ls : Array Slot} (C : lwC p s m meth c b N xs D tc z0) (hk : 4 * k + 4 ≤ N) (hN8 : N ≤ 2048) (hJ : zJ κ g z0 px pm rq t k) (hko : κ po = 29) (hkd : κ pd = 30) (hI : zI D tc (zA [] [] s.heap.size) s.heap [] L κ g H locs) (hl : lv_has ls 9 [(0, .ref b), (1, .ref px), (2, .ref pm), (3, .ref po), (4, .ref pd), (5, .int (nI (4 * k)))]) (hN : lwN p l e s m below meth c b D tc z0 px pm po pd rq k Q) : W p l e room_1 s m #[Value.ref b] below meth c H locs (60 + 20 * k + 37 * t) (400 + 120 * k + 162 * t) Q (F0 m 1274 ls []) := by
  obtain ⟨hx, hb, hml, hown, hts, hK, hE, hX, hbl⟩ := C
  have hbA : ¬ zA [] [] s.heap.size b := fun q => by rcases q with q | q | q; exact absurd q List.not_mem_nil; exact absurd q List.not_mem_nil; exact absurd hbl (Nat.not_lt.mpr q)
  have htb9 : t ≤ 9999 := hJ.1.2.2.1.2
  obtain ⟨⟨⟨hkx, hkm, hkq⟩, hR, ⟨htM, htb⟩, ⟨aC, hkC, hC⟩, ⟨aT, hkT, hT⟩, ⟨co, hkO, hO⟩, ⟨sp, hkS, hS9⟩, lc, eC, nC, mC, cf9, lt, eT, nT, mT, tf, hMo⟩, P, cf, bf, a9, q9, nc, t9, rfl, hSd⟩ := id hJ
  have hWa : zWa g aC 19998 := by rw [show aC = P 1 from Value.ref.inj (hC.symm.trans hSd.1.2.1.1)]; exact (hSd.1.wa hSd.2.2.2.2.2.1).mono2 (by have := hSd.2.2.2.2.1; omega)
  refine lv_aload_n hx hb dL_law_1274 rfl (lv_at hl 1 rfl) ?_
  refine lv_aload_n hx hb dL_law_1275 rfl (lv_at hl 0 rfl) ?_
  refine lv_iload hx hb dL_law_1276 (lv_at hl 5 rfl) ?_
  refine lv_iconst (v := 1) hx hb dL_law_1278 (by decide) ?_
  refine lv_iadd hx hb dL_law_1279 ?_
  rw [show nI (4 * k) + 1 = nI (4 * k + 1) from nI_add _ _]
  refine va_sld hx hb hX hbl hbA hI.2.1 (vp_in_nI (show 4 * k + 1 < N from by omega) (by omega)) dL_law_1280 ?_
  refine lv_i2c hx hb dL_law_1281 rfl ?_
  refine lv_aload_n hx hb dL_law_1282 rfl (lv_at hl 3 rfl) ?_
  refine z_xi hI (vx_runSX (As := [.ref (P 0), .int (((xs (nI (4 * k + 1)).toNatClampNeg).toUInt32 % 65536).toInt32), .ref po]) (rest := []) ⟨hx, hb, hml, hown, hts⟩ (c_L_account l hnt D tc z0 _ κ g _ (P 0) hkx (((xs (nI (4 * k + 1)).toNatClampNeg).toUInt32 % 65536).toInt32) po hko ) (vx_cwSW 3 hts gL_law_L_account rfl rfl rfl (by decide +kernel) ⟨Nat.le_of_ble_eq_true rfl, Nat.le_of_ble_eq_true rfl⟩) (z_pre (Xc := []) hK hE hI [] rfl rfl) rfl rfl hl.1 rfl (lv_room (Nat.le_of_ble_eq_true rfl)) dL_law_1283 ⟨(show 60 + 20 * k + 37 * t + 1 ≤ 798071 from by omega), (show 400 + 120 * k + 162 * t + 6 ≤ 6701890 from by omega)⟩) (fun E ce q9 u H locs hw hI he1 he2 he3 => hw.elim) (fun v u H locs hw hI => ?_)
  obtain ⟨L1, κ1, g1⟩ := u
  have hI : zI D tc (zA [] [] s.heap.size) s.heap [] L1 κ1 g1 H locs := hI
  have hJ : zJ κ1 g1 z0 (P 0) pm rq t (k + 1) ∧ κ1 po = 29 ∧ κ1 pd = 30 := by
    rcases hw with ⟨_, r1, u1, v9, hp, hu⟩ | ⟨_, hp⟩
    · cases hu
      have hp9 : u1 = (L, κ, g) := by first | exact hp | exact hp.2 | exact hp.2.2 | exact hp.2.2.2
      cases hp9
      exact ⟨(hJ.up hko (by decide)).more, hko, hkd⟩
    · obtain ⟨_, hp⟩ := hp
      cases hp
      exact ⟨hJ.more, hko, hkd⟩
  obtain ⟨hJ, hko, hkd⟩ := hJ
  clear hw
  obtain ⟨L, rfl⟩ : ∃ x, x = L1 := ⟨_, rfl⟩
  obtain ⟨κ, rfl⟩ : ∃ x, x = κ1 := ⟨_, rfl⟩
  obtain ⟨g, rfl⟩ : ∃ x, x = g1 := ⟨_, rfl⟩
  refine lv_istore (lv' := [(6, .int v), (0, .ref b), (1, .ref (P 0)), (2, .ref pm), (3, .ref po), (4, .ref pd), (5, .int (nI (4 * k)))]) hx hb dL_law_1286 hl (by decide) rfl (fun ls hl => ?_)
  refine lv_aload_n hx hb dL_law_1288 rfl (lv_at hl 3 rfl) ?_
  refine lv_aload_n hx hb dL_law_1289 rfl (lv_at hl 1 rfl) ?_
  refine lv_iload hx hb dL_law_1290 (lv_at hl 6 rfl) ?_
  refine lv_iconst (v := 1) hx hb dL_law_1292 (by decide) ?_
  refine lv_iadd hx hb dL_law_1293 ?_
  rw [show nI (4 * k) + 1 = nI (4 * k + 1) from nI_add _ _]
  refine va_sld hx hb hX hbl hbA hI.2.1 (vp_in_nI (show 4 * k + 1 < N from by omega) (by omega)) dL_law_1294 ?_
  refine lv_i2c hx hb dL_law_1295 rfl ?_
  obtain ⟨⟨⟨hkx, hkm, hkq⟩, hR, ⟨htM, htb⟩, ⟨aC, hkC, hC⟩, ⟨aT, hkT, hT⟩, ⟨co, hkO, hO⟩, ⟨sp, hkS, hS9⟩, lc, eC, nC, mC, cf9, lt, eT, nT, mT, tf, hMo⟩, -⟩ := id hJ
  refine z_cl hI (va_runV (As := [.int (((xs (nI (4 * k + 1)).toNatClampNeg).toUInt32 % 65536).toInt32)]) (rest := []) ⟨hx, hb, hml, hown, hts⟩ (c_X11_account l D tc z0 _ κ g _ pm hkm (((xs (nI (4 * k + 1)).toNatClampNeg).toUInt32 % 65536).toInt32)  ) (cwV 1 hts gL_law_X11_account rfl rfl rfl (by decide +kernel) ⟨Nat.le_of_ble_eq_true rfl, Nat.le_of_ble_eq_true rfl⟩) (z_preV (Xc := []) hK hE hI [] rfl rfl (z_recv hK hI hkm rfl rfl)) rfl rfl hl.1 rfl (lv_room (Nat.le_of_ble_eq_true rfl)) dL_law_1296 ⟨(show 60 + 20 * k + 37 * t + 1 + 1 ≤ 798071 from by omega), (show 400 + 120 * k + 162 * t + 6 + 6 ≤ 6701890 from by omega)⟩) (fun w u H locs hw hI => ?_)
  obtain ⟨x9, rfl⟩ := hw
  have hJ := hJ.upM (j := 12) (v := .int x9) (by decide)
  have hI : zI D tc (zA [] [] s.heap.size) s.heap [] L κ (zup g pm 12 (.int x9)) H locs := hI
  generalize (zup g pm 12 (.int x9)) = g at hI hJ
  refine lv_lstore (lv' := [(7, .long w), (6, .int v), (0, .ref b), (1, .ref (P 0)), (2, .ref pm), (3, .ref po), (4, .ref pd), (5, .int (nI (4 * k)))]) hx hb dL_law_1299 hl (by decide) rfl (fun ls hl => ?_)
  refine lv_goto (tgt := 1364) hx hb dL_law_1301 (by decide) ?_
  have hl := lv_sub hl [2, 3, 4, 5, 6, 7] (l' := [(0, .ref b), (1, .ref (P 0)), (2, .ref pm), (3, .ref po), (4, .ref pd), (5, .int (nI (4 * k)))]) rfl
  refine W.widen (k := 60 + 20 * (k + 1) + 37 * t) (n := 400 + 120 * (k + 1) + 162 * t) (by omega) (by omega) ?_
  refine W.base ?_
  exact hN s.drawn L κ g _ _ _ _ (Drawn.sameBut.refl _ _) hJ hko hkd hI hl

set_option maxHeartbeats 4000000 in
set_option maxRecDepth 100000 in
theorem k_checksum (l : Launch) (hnt : l.stackTraces = false) {p : Program} {e : Env} {s : State} {m : MethodId} {below : List Frame} {meth : Method} {c : Code} {H : Heap} {locs : List Loc} {Q : State → Prop} {D : va_G} {tc : Nat → ClassId} {z0 b N : Nat} {xs : Nat → Int32} {px pm po pd rq t k : Nat} {L : List Nat} {κ : Nat → Nat} {g : Nat → Nat → Value} {ls : Array Slot} (C : lwC p s m meth c b N xs D tc z0) (hk : 4 * k + 4 ≤ N) (hN8 : N ≤ 2048) (hJ : zJ κ g z0 px pm rq t k) (hko : κ po = 29) (hkd : κ pd = 30) (hI : zI D tc (zA [] [] s.heap.size) s.heap [] L κ g H locs) (hl : lv_has ls 9 [(0, .ref b), (1, .ref px), (2, .ref pm), (3, .ref po), (4, .ref pd), (5, .int (nI (4 * k)))]) (hN : lwN p l e s m below meth c b D tc z0 px pm po pd rq k Q) : W p l e room_1 s m #[Value.ref b] below meth c H locs (60 + 20 * k + 37 * t) (400 + 120 * k + 162 * t) Q (F0 m 1304 ls []) := by
  obtain ⟨hx, hb, hml, hown, hts, hK, hE, hX, hbl⟩ := C
  have hbA : ¬ zA [] [] s.heap.size b := fun q => by rcases q with q | q | q; exact absurd q List.not_mem_nil; exact absurd q List.not_mem_nil; exact absurd hbl (Nat.not_lt.mpr q)
  have htb9 : t ≤ 9999 := hJ.1.2.2.1.2
  obtain ⟨⟨⟨hkx, hkm, hkq⟩, hR, ⟨htM, htb⟩, ⟨aC, hkC, hC⟩, ⟨aT, hkT, hT⟩, ⟨co, hkO, hO⟩, ⟨sp, hkS, hS9⟩, lc, eC, nC, mC, cf9, lt, eT, nT, mT, tf, hMo⟩, P, cf, bf, a9, q9, nc, t9, rfl, hSd⟩ := id hJ
  have hWa : zWa g aC 19998 := by rw [show aC = P 1 from Value.ref.inj (hC.symm.trans hSd.1.2.1.1)]; exact (hSd.1.wa hSd.2.2.2.2.2.1).mono2 (by have := hSd.2.2.2.2.1; omega)
  refine lv_aload_n hx hb dL_law_1304 rfl (lv_at hl 1 rfl) ?_
  refine z_cl hI (va_runV (As := []) (rest := []) ⟨hx, hb, hml, hown, hts⟩ (c_X8_checksum l D tc z0 _ κ g _ (P 0) hkx  ) (cwV 0 hts gL_law_X8_checksum rfl rfl rfl (by decide +kernel) ⟨Nat.le_of_ble_eq_true rfl, Nat.le_of_ble_eq_true rfl⟩) (z_preV (Xc := []) hK hE hI [] rfl rfl (z_recv hK hI hkx rfl rfl)) rfl rfl hl.1 rfl (lv_room (Nat.le_of_ble_eq_true rfl)) dL_law_1305 ⟨(show 60 + 20 * k + 37 * t + 0 ≤ 798071 from by omega), (show 400 + 120 * k + 162 * t + 0 ≤ 6701890 from by omega)⟩) (fun v u H locs hw hI => ?_)
  have hw9 : u = (L, κ, g) := by first | exact hw | exact hw.2 | exact hw.2.2 | exact hw.2.2.2
  obtain rfl := hw9
  have hJ := hJ.more
  have hI : zI D tc (zA [] [] s.heap.size) s.heap [] L κ g H locs := hI
  refine lv_pop2_2 hx hb dL_law_1308 rfl ?_
  refine lv_aload_n hx hb dL_law_1309 rfl (lv_at hl 2 rfl) ?_
  obtain ⟨⟨⟨hkx, hkm, hkq⟩, hR, ⟨htM, htb⟩, ⟨aC, hkC, hC⟩, ⟨aT, hkT, hT⟩, ⟨co, hkO, hO⟩, ⟨sp, hkS, hS9⟩, lc, eC, nC, mC, cf9, lt, eT, nT, mT, tf, hMo⟩, -⟩ := id hJ
  refine z_cl hI (va_runV (As := []) (rest := []) ⟨hx, hb, hml, hown, hts⟩ (c_X11_checksum l D tc z0 _ κ g _ pm hkm  lc eC nC mC cf9 lt eT nT mT tf hMo ) (cwV 0 hts gL_law_X11_checksum rfl rfl rfl (by decide +kernel) ⟨Nat.le_of_ble_eq_true rfl, Nat.le_of_ble_eq_true rfl⟩) (z_preV (Xc := []) hK hE hI [] rfl rfl (z_recv hK hI hkm rfl rfl)) rfl rfl hl.1 rfl (lv_room (Nat.le_of_ble_eq_true rfl)) dL_law_1310 ⟨(show 60 + 20 * k + 37 * t + 0 + 2 ≤ 798071 from by omega), (show 400 + 120 * k + 162 * t + 0 + 8 ≤ 6701890 from by omega)⟩) (fun w u H locs hw hI => ?_)
  obtain ⟨x9, rfl⟩ := hw
  have hJ := hJ.upM (j := 12) (v := .int x9) (by decide)
  have hI : zI D tc (zA [] [] s.heap.size) s.heap [] L κ (zup g pm 12 (.int x9)) H locs := hI
  generalize (zup g pm 12 (.int x9)) = g at hI hJ
  refine lv_pop2_2 hx hb dL_law_1313 rfl ?_
  refine lv_goto (tgt := 1364) hx hb dL_law_1314 (by decide) ?_
  have hl := lv_sub hl [0, 1, 2, 3, 4, 5] (l' := [(0, .ref b), (1, .ref (P 0)), (2, .ref pm), (3, .ref po), (4, .ref pd), (5, .int (nI (4 * k)))]) rfl
  refine W.widen (k := 60 + 20 * (k + 1) + 37 * t) (n := 400 + 120 * (k + 1) + 162 * t) (by omega) (by omega) ?_
  refine W.base ?_
  exact hN s.drawn L κ g _ _ _ _ (Drawn.sameBut.refl _ _) hJ hko hkd hI hl

set_option maxHeartbeats 4000000 in
set_option maxRecDepth 100000 in
theorem k_isSound (l : Launch) (hnt : l.stackTraces = false) {p : Program} {e : Env} {s : State} {m : MethodId} {below : List Frame} {meth : Method} {c : Code} {H : Heap} {locs : List Loc} {Q : State → Prop} {D : va_G} {tc : Nat → ClassId} {z0 b N : Nat} {xs : Nat → Int32} {px pm po pd rq t k : Nat} {L : List Nat} {κ : Nat → Nat} {g : Nat → Nat → Value} {ls : Array Slot} (C : lwC p s m meth c b N xs D tc z0) (hk : 4 * k + 4 ≤ N) (hN8 : N ≤ 2048) (hJ : zJ κ g z0 px pm rq t k) (hko : κ po = 29) (hkd : κ pd = 30) (hI : zI D tc (zA [] [] s.heap.size) s.heap [] L κ g H locs) (hl : lv_has ls 9 [(0, .ref b), (1, .ref px), (2, .ref pm), (3, .ref po), (4, .ref pd), (5, .int (nI (4 * k)))]) (hN : lwN p l e s m below meth c b D tc z0 px pm po pd rq k Q) : W p l e room_1 s m #[Value.ref b] below meth c H locs (60 + 20 * k + 37 * t) (400 + 120 * k + 162 * t) Q (F0 m 1351 ls []) := by
  obtain ⟨hx, hb, hml, hown, hts, hK, hE, hX, hbl⟩ := C
  have hbA : ¬ zA [] [] s.heap.size b := fun q => by rcases q with q | q | q; exact absurd q List.not_mem_nil; exact absurd q List.not_mem_nil; exact absurd hbl (Nat.not_lt.mpr q)
  have htb9 : t ≤ 9999 := hJ.1.2.2.1.2
  obtain ⟨⟨⟨hkx, hkm, hkq⟩, hR, ⟨htM, htb⟩, ⟨aC, hkC, hC⟩, ⟨aT, hkT, hT⟩, ⟨co, hkO, hO⟩, ⟨sp, hkS, hS9⟩, lc, eC, nC, mC, cf9, lt, eT, nT, mT, tf, hMo⟩, P, cf, bf, a9, q9, nc, t9, rfl, hSd⟩ := id hJ
  have hWa : zWa g aC 19998 := by rw [show aC = P 1 from Value.ref.inj (hC.symm.trans hSd.1.2.1.1)]; exact (hSd.1.wa hSd.2.2.2.2.2.1).mono2 (by have := hSd.2.2.2.2.1; omega)
  refine lv_aload_n hx hb dL_law_1351 rfl (lv_at hl 1 rfl) ?_
  refine z_ci hI (va_runV (As := []) (rest := []) ⟨hx, hb, hml, hown, hts⟩ (a_X8_isSound l D tc z0 _ κ g _ P cf bf a9 q9 nc t9 k hSd) (cwV 0 hts gL_law_X8_isSound rfl rfl rfl (by decide +kernel) ⟨Nat.le_of_ble_eq_true rfl, Nat.le_of_ble_eq_true rfl⟩) (z_preV (Xc := []) hK hE hI [] rfl rfl (z_recv hK hI hkx rfl rfl)) rfl rfl hl.1 rfl (lv_room (Nat.le_of_ble_eq_true rfl)) dL_law_1352 ⟨(show 60 + 20 * k + 37 * t + 0 ≤ 798071 from by omega), (show 400 + 120 * k + 162 * t + 0 ≤ 6701890 from by omega)⟩) (fun v u H locs hw hI => ?_)
  obtain ⟨hv1, rfl⟩ := hw
  have hJ := hJ.more
  have hI : zI D tc (zA [] [] s.heap.size) s.heap [] L κ g H locs := hI
  refine lv_aload_n hx hb dL_law_1355 rfl (lv_at hl 2 rfl) ?_
  obtain ⟨⟨⟨hkx, hkm, hkq⟩, hR, ⟨htM, htb⟩, ⟨aC, hkC, hC⟩, ⟨aT, hkT, hT⟩, ⟨co, hkO, hO⟩, ⟨sp, hkS, hS9⟩, lc, eC, nC, mC, cf9, lt, eT, nT, mT, tf, hMo⟩, -⟩ := id hJ
  refine z_ci hI (va_runV (As := []) (rest := [.int v]) ⟨hx, hb, hml, hown, hts⟩ (a_X11_isSound l D tc z0 _ κ g _ pm hkm   ) (cwV 0 hts gL_law_X11_isSound rfl rfl rfl (by decide +kernel) ⟨Nat.le_of_ble_eq_true rfl, Nat.le_of_ble_eq_true rfl⟩) (z_preV (Xc := []) hK hE hI [] rfl rfl (z_recv hK hI hkm rfl rfl)) rfl rfl hl.1 rfl (lv_room (Nat.le_of_ble_eq_true rfl)) dL_law_1356 ⟨(show 60 + 20 * k + 37 * t + 0 + 0 ≤ 798071 from by omega), (show 400 + 120 * k + 162 * t + 0 + 0 ≤ 6701890 from by omega)⟩) (fun w u H locs hw hI => ?_)
  obtain ⟨hw1, x9, rfl⟩ := hw
  have hJ := hJ.upM (j := 12) (v := .int x9) (by decide)
  have hI : zI D tc (zA [] [] s.heap.size) s.heap [] L κ (zup g pm 12 (.int x9)) H locs := hI
  generalize (zup g pm 12 (.int x9)) = g at hI hJ
  refine lv_icmp_eq (tgt := 1364) hx hb dL_law_1359 (by decide) (fun _ => ?_) (fun hne => absurd (hv1.trans hw1.symm) hne)
  have hl := lv_sub hl [0, 1, 2, 3, 4, 5] (l' := [(0, .ref b), (1, .ref (P 0)), (2, .ref pm), (3, .ref po), (4, .ref pd), (5, .int (nI (4 * k)))]) rfl
  refine W.widen (k := 60 + 20 * (k + 1) + 37 * t) (n := 400 + 120 * (k + 1) + 162 * t) (by omega) (by omega) ?_
  refine W.base ?_
  exact hN s.drawn L κ g _ _ _ _ (Drawn.sameBut.refl _ _) hJ hko hkd hI hl
