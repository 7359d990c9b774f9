set_option maxHeartbeats 4000000 in
set_option maxRecDepth 100000 in
theorem k_core (l : Launch) (hnt : l.stackTraces = false) {p : Program} {e : Env} {s : State} {m : MethodId} {below : List Frame} {meth : Method} {c : Code} {H : Heap} {locs : List Loc} {Q : State → Prop} {D : va_G} {tc : Nat → ClassId} {z0 b N : Nat} {xs : Nat → Int32} {px pm po pd rq co sp aC aT t k : Nat} {L : List Nat} {κ : Nat → Nat} {g : Nat → Nat → Value} {ls : Array Slot} (C : lwC p s m meth c b N xs D tc z0) (hk : 4 * k + 4 ≤ N) (hN8 : N ≤ 2048) (hJ : zJ κ g z0 px pm rq co sp aC aT t) (hko : κ po = 29) (hkd : κ pd = 30) (hI : zI D tc (zA [] [] s.heap.size) s.heap [] L κ g H locs) (hl : lv_has ls 9 [(0, .ref b), (1, .ref px), (2, .ref pm), (3, .ref po), (4, .ref pd), (5, .int (nI (4 * k)))]) (hN : lwN p l e s m below meth c b D tc z0 px pm po pd rq co sp aC aT k Q) : W p l e room_1 s m #[Value.ref b] below meth c H locs (60 + 20 * k + 37 * t) (400 + 120 * k + 162 * t) Q (F0 m 224 ls []) := by
  obtain ⟨hx, hb, hml, hown, hts, hK, hE, hX, hbl⟩ := C
  have hbA : ¬ zA [] [] s.heap.size b := fun q => by rcases q with q | q | q; exact absurd q List.not_mem_nil; exact absurd q List.not_mem_nil; exact absurd hbl (Nat.not_lt.mpr q)
  have htb9 : t ≤ 9999 := hJ.1.2.2.1.2
  refine lv_aload_n hx hb dL_law_224 rfl (lv_at hl 1 rfl) ?_
  refine lv_aload_n hx hb dL_law_225 rfl (lv_at hl 0 rfl) ?_
  refine lv_iload hx hb dL_law_226 (lv_at hl 5 rfl) ?_
  refine lv_iconst (v := 1) hx hb dL_law_228 (by decide) ?_
  refine lv_iadd hx hb dL_law_229 ?_
  rw [show nI (4 * k) + 1 = nI (4 * k + 1) from nI_add _ _]
  refine va_sld hx hb hX hbl hbA hI.2.1 (vp_in_nI (show 4 * k + 1 < N from by omega) (by omega)) dL_law_230 ?_
  refine lv_aload_n hx hb dL_law_231 rfl (lv_at hl 0 rfl) ?_
  refine lv_iload hx hb dL_law_232 (lv_at hl 5 rfl) ?_
  refine lv_iconst (v := 2) hx hb dL_law_234 (by decide) ?_
  refine lv_iadd hx hb dL_law_235 ?_
  rw [show nI (4 * k) + 2 = nI (4 * k + 2) from nI_add _ _]
  refine va_sld hx hb hX hbl hbA hI.2.1 (vp_in_nI (show 4 * k + 2 < N from by omega) (by omega)) dL_law_236 ?_
  refine lv_i2c hx hb dL_law_237 rfl ?_
  refine lv_aload_n hx hb dL_law_238 rfl (lv_at hl 3 rfl) ?_
  obtain ⟨⟨⟨hkx, hkm, hkq, hkO, hkS, hkC, hkT⟩, ⟨hR, hO, hS9, hC, hT⟩, ⟨htM, htb⟩, lc, eC, nC, mC, cf, lt, eT, nT, mT, tf, hMo, hCo, hTh⟩, a0, a1, a2, a3, a4, a5, a6, a7⟩ := id hJ
  refine z_xi hI (vx_runSX (As := [.ref px, .int (xs (nI (4 * k + 1)).toNatClampNeg), .int (((xs (nI (4 * k + 2)).toNatClampNeg).toUInt32 % 65536).toInt32), .ref po]) (rest := []) ⟨hx, hb, hml, hown, hts⟩ (c_L_core l hnt D tc z0 _ κ g _ px hkx (xs (nI (4 * k + 1)).toNatClampNeg) (((xs (nI (4 * k + 2)).toNatClampNeg).toUInt32 % 65536).toInt32) po hko aC hC) (vx_cwSW 4 hts gL_law_L_core rfl rfl rfl (by decide +kernel) ⟨Nat.le_of_ble_eq_true rfl, Nat.le_of_ble_eq_true rfl⟩) (z_pre (Xc := []) hK hE hI [] rfl rfl) rfl rfl hl.1 rfl (lv_room (Nat.le_of_ble_eq_true rfl)) dL_law_239 ⟨(show 60 + 20 * k + 37 * t + 7 ≤ 841393 from by omega), (show 400 + 120 * k + 162 * t + 65 ≤ 6571924 from by omega)⟩) (fun E ce q9 u H locs hw hI he1 he2 he3 => hw.elim) (fun v u H locs hw hI => ?_)
  have hbC := hMo.bC
  have hbT := hMo.bT
  rcases hw with ⟨rfl, r1, u1, v9, hp, hv9, hu⟩ | ⟨rfl, hp⟩ | ⟨rfl, hp⟩ | ⟨rfl, hp⟩
  · obtain ⟨L1, κ1, g1⟩ := u1
    obtain ⟨i9, q9, hi9, hr9, qv, qk, hno9, hnl9, hkq9, hxt, h93, h917, hf9⟩ := hp
    dsimp only at hkq9 hxt h93 h917 hu
    cases hu
    have hin : i9 = nC := hCo.first hi9 hno9 hnl9
    rw [hin] at hxt
    have hM1 : zMo κ1 (zup g1 po 0 (.long v9)) z0 pm lc eC nC mC cf lt eT nT mT tf := ((hMo.upO hkC (by decide)).ext hxt).upO (hxt.k hko (by decide)) (by decide)
    have hkm1 : κ1 pm = 13 := hxt.k hkm (by decide)
    have hI : zI D tc (zA [] [] s.heap.size) s.heap [] L1 κ1 (zup g1 po 0 (.long v9)) H locs := hI
    refine lv_istore (lv' := [(6, .int 0), (0, .ref b), (1, .ref px), (2, .ref pm), (3, .ref po), (4, .ref pd), (5, .int (nI (4 * k)))]) hx hb dL_law_242 hl (by decide) rfl (fun ls hl => ?_)
    refine lv_aload_n hx hb dL_law_244 rfl (lv_at hl 3 rfl) ?_
    refine lv_aload_n hx hb dL_law_245 rfl (lv_at hl 1 rfl) ?_
    refine lv_iload hx hb dL_law_246 (lv_at hl 6 rfl) ?_
    refine lv_iconst (v := 1) hx hb dL_law_248 (by decide) ?_
    refine lv_iadd hx hb dL_law_249 ?_
    rw [show nI (4 * k) + 1 = nI (4 * k + 1) from nI_add _ _]
    refine va_sld hx hb hX hbl hbA hI.2.1 (vp_in_nI (show 4 * k + 1 < N from by omega) (by omega)) dL_law_250 ?_
    refine lv_aload_n hx hb dL_law_251 rfl (lv_at hl 1 rfl) ?_
    refine lv_iload hx hb dL_law_252 (lv_at hl 6 rfl) ?_
    refine lv_iconst (v := 2) hx hb dL_law_254 (by decide) ?_
    refine lv_iadd hx hb dL_law_255 ?_
    rw [show nI (4 * k) + 2 = nI (4 * k + 2) from nI_add _ _]
    refine va_sld hx hb hX hbl hbA hI.2.1 (vp_in_nI (show 4 * k + 2 < N from by omega) (by omega)) dL_law_256 ?_
    refine lv_i2c hx hb dL_law_257 rfl ?_
    refine z_ci hI (va_runV (As := [.int (xs (nI (4 * k + 1)).toNatClampNeg), .int (((xs (nI (4 * k + 2)).toNatClampNeg).toUInt32 % 65536).toInt32)]) (rest := []) ⟨hx, hb, hml, hown, hts⟩ (c_X11_core l D tc z0 _ κ1 (zup g1 po 0 (.long v9)) _ pm hkm1 (xs (nI (4 * k + 1)).toNatClampNeg) (((xs (nI (4 * k + 2)).toNatClampNeg).toUInt32 % 65536).toInt32) lc eC nC mC cf lt eT nT mT tf hM1) (cwV 2 hts gL_law_X11_core rfl rfl rfl (by decide +kernel) ⟨Nat.le_of_ble_eq_true rfl, Nat.le_of_ble_eq_true rfl⟩) (z_preV (Xc := []) hK hE hI [] rfl rfl (z_recv hK hI hkm1 rfl rfl)) rfl rfl hl.1 rfl (lv_room (Nat.le_of_ble_eq_true rfl)) dL_law_258 ⟨(show 60 + 20 * k + 37 * t + 7 + 2 ≤ 841393 from by omega), (show 400 + 120 * k + 162 * t + 65 + 29 ≤ 6571924 from by omega)⟩) (fun w u H locs hw hI => ?_)
    rcases hw with ⟨v8, ⟨rfl, w1⟩ | ⟨rfl, w1, w2, w3⟩ | ⟨rfl, w1, w2, w3⟩, w0, hu⟩ | ⟨i8, hi8, hx8, w2, w3, w4, e8, q8, hM9, hk9, h83, h815, h812, hκ9, hg9, hf8⟩
    · exact absurd (z_in3I.mp qv) w1
    · exact absurd qk (fun h => h.elim w2 w3)
    · exact absurd hi9 (by omega)
    · obtain ⟨L2, κ2, g2⟩ := u
      dsimp only at hM9 hk9 h83 h815 h812 hκ9 hg9
      have hko1 : κ1 po = 29 := hxt.k hko (by decide)
      have hkd1 : κ1 pd = 30 := hxt.k hkd (by decide)
      have hJ : zJ κ2 g2 z0 px pm rq co sp aC aT t := zJ.core hJ hCo hTh hxt hkq9 h93 h917 hf9 hko hM9 hMo.LC.1 hk9 h83 h815 hκ9 hg9 hf8
      have hkm := hM9.k
      have hko : κ2 po = 29 := (hκ9 po (by rw [hko1]; decide)).trans hko1
      have hkd : κ2 pd = 30 := (hκ9 pd (by rw [hkd1]; decide)).trans hkd1
      have hI : zI D tc (zA [] [] s.heap.size) s.heap [] L2 κ2 g2 H locs := hI
      obtain ⟨L, rfl⟩ : ∃ x, x = L2 := ⟨_, rfl⟩
      obtain ⟨κ, rfl⟩ : ∃ x, x = κ2 := ⟨_, rfl⟩
      refine lv_istore (lv' := [(7, .int w), (6, .int 0), (0, .ref b), (1, .ref px), (2, .ref pm), (3, .ref po), (4, .ref pd), (5, .int (nI (4 * k)))]) hx hb dL_law_261 hl (by decide) rfl (fun ls hl => ?_)
      refine lv_goto (tgt := 1392) hx hb dL_law_263 (by decide) ?_
      have hl := lv_sub hl [2, 3, 4, 5, 6, 7] (l' := [(0, .ref b), (1, .ref px), (2, .ref pm), (3, .ref po), (4, .ref pd), (5, .int (nI (4 * k)))]) rfl
      refine W.widen (k := 60 + 20 * (k + 1) + 37 * t) (n := 400 + 120 * (k + 1) + 162 * t) (by omega) (by omega) ?_
      refine W.base ?_
      exact hN s.drawn L κ g2 _ _ _ _ (Drawn.sameBut.refl _ _) hJ hko hkd hI hl
  · rcases hp with ⟨⟨_, q1⟩ | ⟨q0, _⟩ | ⟨q0, _⟩, hp⟩
    · cases hp
      refine lv_istore (lv' := [(6, .int 1), (0, .ref b), (1, .ref px), (2, .ref pm), (3, .ref po), (4, .ref pd), (5, .int (nI (4 * k)))]) hx hb dL_law_242 hl (by decide) rfl (fun ls hl => ?_)
      refine lv_aload_n hx hb dL_law_244 rfl (lv_at hl 3 rfl) ?_
      refine lv_aload_n hx hb dL_law_245 rfl (lv_at hl 1 rfl) ?_
      refine lv_iload hx hb dL_law_246 (lv_at hl 6 rfl) ?_
      refine lv_iconst (v := 1) hx hb dL_law_248 (by decide) ?_
      refine lv_iadd hx hb dL_law_249 ?_
      rw [show nI (4 * k) + 1 = nI (4 * k + 1) from nI_add _ _]
      refine va_sld hx hb hX hbl hbA hI.2.1 (vp_in_nI (show 4 * k + 1 < N from by omega) (by omega)) dL_law_250 ?_
      refine lv_aload_n hx hb dL_law_251 rfl (lv_at hl 1 rfl) ?_
      refine lv_iload hx hb dL_law_252 (lv_at hl 6 rfl) ?_
      refine lv_iconst (v := 2) hx hb dL_law_254 (by decide) ?_
      refine lv_iadd hx hb dL_law_255 ?_
      rw [show nI (4 * k) + 2 = nI (4 * k + 2) from nI_add _ _]
      refine va_sld hx hb hX hbl hbA hI.2.1 (vp_in_nI (show 4 * k + 2 < N from by omega) (by omega)) dL_law_256 ?_
      refine lv_i2c hx hb dL_law_257 rfl ?_
      refine z_ci hI (va_runV (As := [.int (xs (nI (4 * k + 1)).toNatClampNeg), .int (((xs (nI (4 * k + 2)).toNatClampNeg).toUInt32 % 65536).toInt32)]) (rest := []) ⟨hx, hb, hml, hown, hts⟩ (c_X11_core l D tc z0 _ κ g _ pm hkm (xs (nI (4 * k + 1)).toNatClampNeg) (((xs (nI (4 * k + 2)).toNatClampNeg).toUInt32 % 65536).toInt32) lc eC nC mC cf lt eT nT mT tf hMo) (cwV 2 hts gL_law_X11_core rfl rfl rfl (by decide +kernel) ⟨Nat.le_of_ble_eq_true rfl, Nat.le_of_ble_eq_true rfl⟩) (z_preV (Xc := []) hK hE hI [] rfl rfl (z_recv hK hI hkm rfl rfl)) rfl rfl hl.1 rfl (lv_room (Nat.le_of_ble_eq_true rfl)) dL_law_258 ⟨(show 60 + 20 * k + 37 * t + 7 + 2 ≤ 841393 from by omega), (show 400 + 120 * k + 162 * t + 65 + 29 ≤ 6571924 from by omega)⟩) (fun w u H locs hw hI => ?_)
      rcases hw with ⟨v8, ⟨rfl, w1⟩ | ⟨rfl, w1, w2, w3⟩ | ⟨rfl, w1, w2, w3⟩, w0, hu⟩ | ⟨i8, hi8, hx8, w2, w3, w4, e8, q8, hM9, hk9, h83, h815, h812, hκ9, hg9, hf8⟩
      · skip
        cases hu
        have hJ : zJ κ (zup g pm 12 (.int 1)) z0 px pm rq co sp aC aT t := hJ.upM (by decide)
        have hI : zI D tc (zA [] [] s.heap.size) s.heap [] L κ (zup g pm 12 (.int 1)) H locs := hI
        generalize (zup g pm 12 (.int 1)) = g3 at hI hJ
        refine lv_istore (lv' := [(7, .int w), (6, .int 1), (0, .ref b), (1, .ref px), (2, .ref pm), (3, .ref po), (4, .ref pd), (5, .int (nI (4 * k)))]) hx hb dL_law_261 hl (by decide) rfl (fun ls hl => ?_)
        refine lv_goto (tgt := 1392) hx hb dL_law_263 (by decide) ?_
        have hl := lv_sub hl [2, 3, 4, 5, 6, 7] (l' := [(0, .ref b), (1, .ref px), (2, .ref pm), (3, .ref po), (4, .ref pd), (5, .int (nI (4 * k)))]) rfl
        refine W.widen (k := 60 + 20 * (k + 1) + 37 * t) (n := 400 + 120 * (k + 1) + 162 * t) (by omega) (by omega) ?_
        refine W.base ?_
        exact hN s.drawn L κ g3 _ _ _ _ (Drawn.sameBut.refl _ _) hJ hko hkd hI hl
      · exact absurd (z_in3I.mpr w1) q1
      · exact absurd (z_in3I.mpr w1) q1
      · exact absurd (by rw [hx8]; exact vp_in_nI hi8 (by decide)) q1
    · exact absurd q0 (by decide)
    · exact absurd q0 (by decide)
  · rcases hp with ⟨⟨q0, _⟩ | ⟨_, q1, q2, q3⟩ | ⟨q0, _⟩, hp⟩
    · exact absurd q0 (by decide)
    · cases hp
      refine lv_istore (lv' := [(6, .int 2), (0, .ref b), (1, .ref px), (2, .ref pm), (3, .ref po), (4, .ref pd), (5, .int (nI (4 * k)))]) hx hb dL_law_242 hl (by decide) rfl (fun ls hl => ?_)
      refine lv_aload_n hx hb dL_law_244 rfl (lv_at hl 3 rfl) ?_
      refine lv_aload_n hx hb dL_law_245 rfl (lv_at hl 1 rfl) ?_
      refine lv_iload hx hb dL_law_246 (lv_at hl 6 rfl) ?_
      refine lv_iconst (v := 1) hx hb dL_law_248 (by decide) ?_
      refine lv_iadd hx hb dL_law_249 ?_
      rw [show nI (4 * k) + 1 = nI (4 * k + 1) from nI_add _ _]
      refine va_sld hx hb hX hbl hbA hI.2.1 (vp_in_nI (show 4 * k + 1 < N from by omega) (by omega)) dL_law_250 ?_
      refine lv_aload_n hx hb dL_law_251 rfl (lv_at hl 1 rfl) ?_
      refine lv_iload hx hb dL_law_252 (lv_at hl 6 rfl) ?_
      refine lv_iconst (v := 2) hx hb dL_law_254 (by decide) ?_
      refine lv_iadd hx hb dL_law_255 ?_
      rw [show nI (4 * k) + 2 = nI (4 * k + 2) from nI_add _ _]
      refine va_sld hx hb hX hbl hbA hI.2.1 (vp_in_nI (show 4 * k + 2 < N from by omega) (by omega)) dL_law_256 ?_
      refine lv_i2c hx hb dL_law_257 rfl ?_
      refine z_ci hI (va_runV (As := [.int (xs (nI (4 * k + 1)).toNatClampNeg), .int (((xs (nI (4 * k + 2)).toNatClampNeg).toUInt32 % 65536).toInt32)]) (rest := []) ⟨hx, hb, hml, hown, hts⟩ (c_X11_core l D tc z0 _ κ g _ pm hkm (xs (nI (4 * k + 1)).toNatClampNeg) (((xs (nI (4 * k + 2)).toNatClampNeg).toUInt32 % 65536).toInt32) lc eC nC mC cf lt eT nT mT tf hMo) (cwV 2 hts gL_law_X11_core rfl rfl rfl (by decide +kernel) ⟨Nat.le_of_ble_eq_true rfl, Nat.le_of_ble_eq_true rfl⟩) (z_preV (Xc := []) hK hE hI [] rfl rfl (z_recv hK hI hkm rfl rfl)) rfl rfl hl.1 rfl (lv_room (Nat.le_of_ble_eq_true rfl)) dL_law_258 ⟨(show 60 + 20 * k + 37 * t + 7 + 2 ≤ 841393 from by omega), (show 400 + 120 * k + 162 * t + 65 + 29 ≤ 6571924 from by omega)⟩) (fun w u H locs hw hI => ?_)
      rcases hw with ⟨v8, ⟨rfl, w1⟩ | ⟨rfl, w1, w2, w3⟩ | ⟨rfl, w1, w2, w3⟩, w0, hu⟩ | ⟨i8, hi8, hx8, w2, w3, w4, e8, q8, hM9, hk9, h83, h815, h812, hκ9, hg9, hf8⟩
      · exact absurd (z_in3I.mp q1) w1
      · skip
        cases hu
        have hJ : zJ κ (zup g pm 12 (.int 2)) z0 px pm rq co sp aC aT t := hJ.upM (by decide)
        have hI : zI D tc (zA [] [] s.heap.size) s.heap [] L κ (zup g pm 12 (.int 2)) H locs := hI
        generalize (zup g pm 12 (.int 2)) = g3 at hI hJ
        refine lv_istore (lv' := [(7, .int w), (6, .int 2), (0, .ref b), (1, .ref px), (2, .ref pm), (3, .ref po), (4, .ref pd), (5, .int (nI (4 * k)))]) hx hb dL_law_261 hl (by decide) rfl (fun ls hl => ?_)
        refine lv_goto (tgt := 1392) hx hb dL_law_263 (by decide) ?_
        have hl := lv_sub hl [2, 3, 4, 5, 6, 7] (l' := [(0, .ref b), (1, .ref px), (2, .ref pm), (3, .ref po), (4, .ref pd), (5, .int (nI (4 * k)))]) rfl
        refine W.widen (k := 60 + 20 * (k + 1) + 37 * t) (n := 400 + 120 * (k + 1) + 162 * t) (by omega) (by omega) ?_
        refine W.base ?_
        exact hN s.drawn L κ g3 _ _ _ _ (Drawn.sameBut.refl _ _) hJ hko hkd hI hl
      · exact absurd w2 (fun h => h.elim q2 q3)
      · exact absurd w2 (fun h => h.elim q2 q3)
    · exact absurd q0 (by decide)
  · rcases hp with ⟨⟨q0, _⟩ | ⟨q0, _⟩ | ⟨_, q1, q2, q3⟩, hp⟩
    · exact absurd q0 (by decide)
    · exact absurd q0 (by decide)
    · cases hp
      refine lv_istore (lv' := [(6, .int 3), (0, .ref b), (1, .ref px), (2, .ref pm), (3, .ref po), (4, .ref pd), (5, .int (nI (4 * k)))]) hx hb dL_law_242 hl (by decide) rfl (fun ls hl => ?_)
      refine lv_aload_n hx hb dL_law_244 rfl (lv_at hl 3 rfl) ?_
      refine lv_aload_n hx hb dL_law_245 rfl (lv_at hl 1 rfl) ?_
      refine lv_iload hx hb dL_law_246 (lv_at hl 6 rfl) ?_
      refine lv_iconst (v := 1) hx hb dL_law_248 (by decide) ?_
      refine lv_iadd hx hb dL_law_249 ?_
      rw [show nI (4 * k) + 1 = nI (4 * k + 1) from nI_add _ _]
      refine va_sld hx hb hX hbl hbA hI.2.1 (vp_in_nI (show 4 * k + 1 < N from by omega) (by omega)) dL_law_250 ?_
      refine lv_aload_n hx hb dL_law_251 rfl (lv_at hl 1 rfl) ?_
      refine lv_iload hx hb dL_law_252 (lv_at hl 6 rfl) ?_
      refine lv_iconst (v := 2) hx hb dL_law_254 (by decide) ?_
      refine lv_iadd hx hb dL_law_255 ?_
      rw [show nI (4 * k) + 2 = nI (4 * k + 2) from nI_add _ _]
      refine va_sld hx hb hX hbl hbA hI.2.1 (vp_in_nI (show 4 * k + 2 < N from by omega) (by omega)) dL_law_256 ?_
      refine lv_i2c hx hb dL_law_257 rfl ?_
      refine z_ci hI (va_runV (As := [.int (xs (nI (4 * k + 1)).toNatClampNeg), .int (((xs (nI (4 * k + 2)).toNatClampNeg).toUInt32 % 65536).toInt32)]) (rest := []) ⟨hx, hb, hml, hown, hts⟩ (c_X11_core l D tc z0 _ κ g _ pm hkm (xs (nI (4 * k + 1)).toNatClampNeg) (((xs (nI (4 * k + 2)).toNatClampNeg).toUInt32 % 65536).toInt32) lc eC nC mC cf lt eT nT mT tf hMo) (cwV 2 hts gL_law_X11_core rfl rfl rfl (by decide +kernel) ⟨Nat.le_of_ble_eq_true rfl, Nat.le_of_ble_eq_true rfl⟩) (z_preV (Xc := []) hK hE hI [] rfl rfl (z_recv hK hI hkm rfl rfl)) rfl rfl hl.1 rfl (lv_room (Nat.le_of_ble_eq_true rfl)) dL_law_258 ⟨(show 60 + 20 * k + 37 * t + 7 + 2 ≤ 841393 from by omega), (show 400 + 120 * k + 162 * t + 65 + 29 ≤ 6571924 from by omega)⟩) (fun w u H locs hw hI => ?_)
      rcases hw with ⟨v8, ⟨rfl, w1⟩ | ⟨rfl, w1, w2, w3⟩ | ⟨rfl, w1, w2, w3⟩, w0, hu⟩ | ⟨i8, hi8, hx8, w2, w3, w4, e8, q8, hM9, hk9, h83, h815, h812, hκ9, hg9, hf8⟩
      · exact absurd (z_in3I.mp q1) w1
      · exact absurd q2 (fun h => h.elim w2 w3)
      · skip
        cases hu
        have hJ : zJ κ (zup g pm 12 (.int 3)) z0 px pm rq co sp aC aT t := hJ.upM (by decide)
        have hI : zI D tc (zA [] [] s.heap.size) s.heap [] L κ (zup g pm 12 (.int 3)) H locs := hI
        generalize (zup g pm 12 (.int 3)) = g3 at hI hJ
        refine lv_istore (lv' := [(7, .int w), (6, .int 3), (0, .ref b), (1, .ref px), (2, .ref pm), (3, .ref po), (4, .ref pd), (5, .int (nI (4 * k)))]) hx hb dL_law_261 hl (by decide) rfl (fun ls hl => ?_)
        refine lv_goto (tgt := 1392) hx hb dL_law_263 (by decide) ?_
        have hl := lv_sub hl [2, 3, 4, 5, 6, 7] (l' := [(0, .ref b), (1, .ref px), (2, .ref pm), (3, .ref po), (4, .ref pd), (5, .int (nI (4 * k)))]) rfl
        refine W.widen (k := 60 + 20 * (k + 1) + 37 * t) (n := 400 + 120 * (k + 1) + 162 * t) (by omega) (by omega) ?_
        refine W.base ?_
        exact hN s.drawn L κ g3 _ _ _ _ (Drawn.sameBut.refl _ _) hJ hko hkd hI hl
      · exact absurd w3 (by rw [hCo.full hMo.bC q3]; decide)

set_option maxHeartbeats 4000000 in
set_option maxRecDepth 100000 in
theorem k_thread (l : Launch) (hnt : l.stackTraces = false) {p : Program} {e : Env} {s : State} {m : MethodId} {below : List Frame} {meth : Method} {c : Code} {H : Heap} {locs : List Loc} {Q : State → Prop} {D : va_G} {tc : Nat → ClassId} {z0 b N : Nat} {xs : Nat → Int32} {px pm po pd rq co sp aC aT t k : Nat} {L : List Nat} {κ : Nat → Nat} {g : Nat → Nat → Value} {ls : Array Slot} (C : lwC p s m meth c b N xs D tc z0) (hk : 4 * k + 4 ≤ N) (hN8 : N ≤ 2048) (hJ : zJ κ g z0 px pm rq co sp aC aT t) (hko : κ po = 29) (hkd : κ pd = 30) (hI : zI D tc (zA [] [] s.heap.size) s.heap [] L κ g H locs) (hl : lv_has ls 9 [(0, .ref b), (1, .ref px), (2, .ref pm), (3, .ref po), (4, .ref pd), (5, .int (nI (4 * k)))]) (hN : lwN p l e s m below meth c b D tc z0 px pm po pd rq co sp aC aT k Q) : W p l e room_1 s m #[Value.ref b] below meth c H locs (60 + 20 * k + 37 * t) (400 + 120 * k + 162 * t) Q (F0 m 266 ls []) := by
  obtain ⟨hx, hb, hml, hown, hts, hK, hE, hX, hbl⟩ := C
  have hbA : ¬ zA [] [] s.heap.size b := fun q => by rcases q with q | q | q; exact absurd q List.not_mem_nil; exact absurd q List.not_mem_nil; exact absurd hbl (Nat.not_lt.mpr q)
  have htb9 : t ≤ 9999 := hJ.1.2.2.1.2
  refine lv_aload_n hx hb dL_law_266 rfl (lv_at hl 1 rfl) ?_
  refine lv_aload_n hx hb dL_law_267 rfl (lv_at hl 0 rfl) ?_
  refine lv_iload hx hb dL_law_268 (lv_at hl 5 rfl) ?_
  refine lv_iconst (v := 1) hx hb dL_law_270 (by decide) ?_
  refine lv_iadd hx hb dL_law_271 ?_
  rw [show nI (4 * k) + 1 = nI (4 * k + 1) from nI_add _ _]
  refine va_sld hx hb hX hbl hbA hI.2.1 (vp_in_nI (show 4 * k + 1 < N from by omega) (by omega)) dL_law_272 ?_
  refine lv_aload_n hx hb dL_law_273 rfl (lv_at hl 0 rfl) ?_
  refine lv_iload hx hb dL_law_274 (lv_at hl 5 rfl) ?_
  refine lv_iconst (v := 2) hx hb dL_law_276 (by decide) ?_
  refine lv_iadd hx hb dL_law_277 ?_
  rw [show nI (4 * k) + 2 = nI (4 * k + 2) from nI_add _ _]
  refine va_sld hx hb hX hbl hbA hI.2.1 (vp_in_nI (show 4 * k + 2 < N from by omega) (by omega)) dL_law_278 ?_
  refine lv_aload_n hx hb dL_law_279 rfl (lv_at hl 0 rfl) ?_
  refine lv_iload hx hb dL_law_280 (lv_at hl 5 rfl) ?_
  refine lv_iconst (v := 3) hx hb dL_law_282 (by decide) ?_
  refine lv_iadd hx hb dL_law_283 ?_
  rw [show nI (4 * k) + 3 = nI (4 * k + 3) from nI_add _ _]
  refine va_sld hx hb hX hbl hbA hI.2.1 (vp_in_nI (show 4 * k + 3 < N from by omega) (by omega)) dL_law_284 ?_
  refine lv_aload_n hx hb dL_law_285 rfl (lv_at hl 3 rfl) ?_
  obtain ⟨⟨⟨hkx, hkm, hkq, hkO, hkS, hkC, hkT⟩, ⟨hR, hO, hS9, hC, hT⟩, ⟨htM, htb⟩, lc, eC, nC, mC, cf, lt, eT, nT, mT, tf, hMo, hCo, hTh⟩, a0, a1, a2, a3, a4, a5, a6, a7⟩ := id hJ
  refine z_xi hI (vx_runSX (As := [.ref px, .int (xs (nI (4 * k + 1)).toNatClampNeg), .int (xs (nI (4 * k + 2)).toNatClampNeg), .int (xs (nI (4 * k + 3)).toNatClampNeg), .ref po]) (rest := []) ⟨hx, hb, hml, hown, hts⟩ (c_L_thread l hnt D tc z0 _ κ g _ px hkx (xs (nI (4 * k + 1)).toNatClampNeg) (xs (nI (4 * k + 2)).toNatClampNeg) (xs (nI (4 * k + 3)).toNatClampNeg) po hko aC hC aT hT) (vx_cwSW 5 hts gL_law_L_thread rfl rfl rfl (by decide +kernel) ⟨Nat.le_of_ble_eq_true rfl, Nat.le_of_ble_eq_true rfl⟩) (z_pre (Xc := []) hK hE hI [] rfl rfl) rfl rfl hl.1 rfl (lv_room (Nat.le_of_ble_eq_true rfl)) dL_law_286 ⟨(show 60 + 20 * k + 37 * t + 2 ≤ 841393 from by omega), (show 400 + 120 * k + 162 * t + 12 ≤ 6571924 from by omega)⟩) (fun E ce q9 u H locs hw hI he1 he2 he3 => hw.elim) (fun v u H locs hw hI => ?_)
  have hbC := hMo.bC
  have hbT := hMo.bT
  rcases hw with ⟨rfl, r1, u1, v9, hp, hv9, hu⟩ | ⟨rfl, hp⟩ | ⟨rfl, hp⟩ | ⟨rfl, hp⟩
  · obtain ⟨L1, κ1, g1⟩ := u1
    obtain ⟨i9, q9, hi9, hr9, qv, qk, hno9, hnl9, hkq9, hxt, h91, hf9⟩ := hp
    dsimp only at hkq9 hxt h91 hu
    cases hu
    have hin : i9 = nT := hTh.first hi9 hno9 hnl9
    rw [hin] at hxt
    have hM1 : zMo κ1 (zup g1 po 0 (.long v9)) z0 pm lc eC nC mC cf lt eT nT mT tf := ((hMo.upO hkT (by decide)).ext hxt).upO (hxt.k hko (by decide)) (by decide)
    have hkm1 : κ1 pm = 13 := hxt.k hkm (by decide)
    have hI : zI D tc (zA [] [] s.heap.size) s.heap [] L1 κ1 (zup g1 po 0 (.long v9)) H locs := hI
    refine lv_istore (lv' := [(6, .int 0), (0, .ref b), (1, .ref px), (2, .ref pm), (3, .ref po), (4, .ref pd), (5, .int (nI (4 * k)))]) hx hb dL_law_289 hl (by decide) rfl (fun ls hl => ?_)
    refine lv_aload_n hx hb dL_law_291 rfl (lv_at hl 3 rfl) ?_
    refine lv_aload_n hx hb dL_law_292 rfl (lv_at hl 1 rfl) ?_
    refine lv_iload hx hb dL_law_293 (lv_at hl 6 rfl) ?_
    refine lv_iconst (v := 1) hx hb dL_law_295 (by decide) ?_
    refine lv_iadd hx hb dL_law_296 ?_
    rw [show nI (4 * k) + 1 = nI (4 * k + 1) from nI_add _ _]
    refine va_sld hx hb hX hbl hbA hI.2.1 (vp_in_nI (show 4 * k + 1 < N from by omega) (by omega)) dL_law_297 ?_
    refine lv_aload_n hx hb dL_law_298 rfl (lv_at hl 1 rfl) ?_
    refine lv_iload hx hb dL_law_299 (lv_at hl 6 rfl) ?_
    refine lv_iconst (v := 2) hx hb dL_law_301 (by decide) ?_
    refine lv_iadd hx hb dL_law_302 ?_
    rw [show nI (4 * k) + 2 = nI (4 * k + 2) from nI_add _ _]
    refine va_sld hx hb hX hbl hbA hI.2.1 (vp_in_nI (show 4 * k + 2 < N from by omega) (by omega)) dL_law_303 ?_
    refine lv_aload_n hx hb dL_law_304 rfl (lv_at hl 1 rfl) ?_
    refine lv_iload hx hb dL_law_305 (lv_at hl 6 rfl) ?_
    refine lv_iconst (v := 3) hx hb dL_law_307 (by decide) ?_
    refine lv_iadd hx hb dL_law_308 ?_
    rw [show nI (4 * k) + 3 = nI (4 * k + 3) from nI_add _ _]
    refine va_sld hx hb hX hbl hbA hI.2.1 (vp_in_nI (show 4 * k + 3 < N from by omega) (by omega)) dL_law_309 ?_
    refine z_ci hI (va_runV (As := [.int (xs (nI (4 * k + 1)).toNatClampNeg), .int (xs (nI (4 * k + 2)).toNatClampNeg), .int (xs (nI (4 * k + 3)).toNatClampNeg)]) (rest := []) ⟨hx, hb, hml, hown, hts⟩ (c_X11_thread l D tc z0 _ κ1 (zup g1 po 0 (.long v9)) _ pm hkm1 (xs (nI (4 * k + 1)).toNatClampNeg) (xs (nI (4 * k + 2)).toNatClampNeg) (xs (nI (4 * k + 3)).toNatClampNeg) lc eC nC mC cf lt eT nT mT tf hM1) (cwV 3 hts gL_law_X11_thread rfl rfl rfl (by decide +kernel) ⟨Nat.le_of_ble_eq_true rfl, Nat.le_of_ble_eq_true rfl⟩) (z_preV (Xc := []) hK hE hI [] rfl rfl (z_recv hK hI hkm1 rfl rfl)) rfl rfl hl.1 rfl (lv_room (Nat.le_of_ble_eq_true rfl)) dL_law_310 ⟨(show 60 + 20 * k + 37 * t + 2 + 2 ≤ 841393 from by omega), (show 400 + 120 * k + 162 * t + 12 + 14 ≤ 6571924 from by omega)⟩) (fun w u H locs hw hI => ?_)
    rcases hw with ⟨v8, ⟨rfl, w1⟩ | ⟨rfl, w1, w2⟩ | ⟨rfl, w1, w2, w3⟩, w0, hu⟩ | ⟨i8, hi8, hx8, w2, w3, w4, e8, q8, hM9, hk9, h81, h812, hκ9, hg9, hf8⟩
    · obtain ⟨i7, hi7, hx7⟩ := (hCo.has hMo.bC (by decide)).mp qv
      exact absurd hx7 (w1 i7 hi7)
    · exact absurd ⟨⟨qk.1, qk.2.1⟩, qk.2.2⟩ w2
    · exact absurd hi9 (by omega)
    · obtain ⟨L2, κ2, g2⟩ := u
      dsimp only at hM9 hk9 h81 h812 hκ9 hg9
      have hko1 : κ1 po = 29 := hxt.k hko (by decide)
      have hkd1 : κ1 pd = 30 := hxt.k hkd (by decide)
      have hrw : r1 = w := hr9.trans (by rw [hin]; exact w4.symm)
      have hpo : g2 po 0 = .long v9 := (hg9 po 0 (by rw [hko1]; decide) (z_apart hko hMo.LT.1 (by decide)) (by rw [hko1]; decide) (fun q => absurd q.2 (by decide))).trans (zup_self _ _ _ _)
      have hcd : g2 pm 12 = .int 0 := h812
      have hJ : zJ κ2 g2 z0 px pm rq co sp aC aT t := zJ.thread hJ hCo hTh hxt hkq9 h91 hf9 hko hM9 hMo.LT.1 hk9 (h81.trans (by rw [hx8])) hκ9 hg9 hf8
      have hkm := hM9.k
      have hko : κ2 po = 29 := (hκ9 po (by rw [hko1]; decide)).trans hko1
      have hkd : κ2 pd = 30 := (hκ9 pd (by rw [hkd1]; decide)).trans hkd1
      have hI : zI D tc (zA [] [] s.heap.size) s.heap [] L2 κ2 g2 H locs := hI
      obtain ⟨L, rfl⟩ : ∃ x, x = L2 := ⟨_, rfl⟩
      obtain ⟨κ, rfl⟩ : ∃ x, x = κ2 := ⟨_, rfl⟩
      refine lv_istore (lv' := [(7, .int w), (6, .int 0), (0, .ref b), (1, .ref px), (2, .ref pm), (3, .ref po), (4, .ref pd), (5, .int (nI (4 * k)))]) hx hb dL_law_313 hl (by decide) rfl (fun ls hl => ?_)
      refine lv_aload_n hx hb dL_law_315 rfl (lv_at hl 4 rfl) ?_
      refine z_ci hI (va_runV (As := []) (rest := []) ⟨hx, hb, hml, hown, hts⟩ (c_X11_thrown l D tc z0 _ κ g2 _ pm hkm) (cwV 0 hts gL_law_X11_thrown rfl rfl rfl (by decide +kernel) ⟨Nat.le_of_ble_eq_true rfl, Nat.le_of_ble_eq_true rfl⟩) (z_preV (Xc := []) hK hE hI [] rfl rfl (z_recv hK hI hkm rfl rfl)) rfl rfl hl.1 rfl (lv_room (Nat.le_of_ble_eq_true rfl)) dL_law_316 ⟨(show 60 + 20 * k + 37 * t + 2 + 2 + 0 ≤ 841393 from by omega), (show 400 + 120 * k + 162 * t + 12 + 14 + 0 ≤ 6571924 from by omega)⟩) (fun w2 u H locs hw hI => ?_)
      obtain ⟨hw2, rfl⟩ := hw
      have hI : zI D tc (zA [] [] s.heap.size) s.heap [] L κ g2 H locs := hI
      obtain rfl : w2 = 0 := Value.int.inj (hw2.symm.trans hcd)
      refine lv_iload hx hb dL_law_319 (lv_at hl 1 rfl) ?_
      refine lv_icmp_eq (tgt := 326) hx hb dL_law_321 (by decide) (fun _ => ?_) (fun hne => absurd rfl hne)
      refine lv_iload hx hb dL_law_326 (lv_at hl 1 rfl) ?_
      refine lv_if_ne (tgt := 343) hx hb dL_law_328 (by decide) (fun h9 => absurd rfl h9) (fun _ => ?_)
      refine lv_aload_n hx hb dL_law_331 rfl (lv_at hl 5 rfl) ?_
      refine lv_iconst (v := 0) hx hb dL_law_332 (by decide) ?_
      have hM : zM p s m c cL_law #[Value.ref b] wsL_law RL D tc := ⟨hx, hb, hts, hown, hK⟩
      refine z_lald hM hI hko rfl rfl (vp_in_c 0 1 (by decide)) dL_law_333 (fun x9 hx9 => ?_)
      obtain ⟨hx9, -⟩ := hx9
      rw [show x9 = v9 from Value.long.inj (hx9.trans hpo)]
      refine lv_iload hx hb dL_law_334 (lv_at hl 0 rfl) ?_
      refine lv_i2l hx hb dL_law_336 rfl ?_
      refine W.lcmp hx hb dL_law_337 ?_
      rw [show lg_cmp v9 _ = 0 from by rw [hv9, hrw]; simp [lg_cmp]]
      refine lv_if_eq (tgt := 343) hx hb dL_law_338 (by decide) (fun _ => ?_) (fun h9 => absurd rfl h9)
      refine lv_goto (tgt := 1392) hx hb dL_law_343 (by decide) ?_
      have hl := lv_sub hl [2, 3, 4, 5, 6, 7] (l' := [(0, .ref b), (1, .ref px), (2, .ref pm), (3, .ref po), (4, .ref pd), (5, .int (nI (4 * k)))]) rfl
      refine W.widen (k := 60 + 20 * (k + 1) + 37 * t) (n := 400 + 120 * (k + 1) + 162 * t) (by omega) (by omega) ?_
      refine W.base ?_
      exact hN s.drawn L κ g2 _ _ _ _ (Drawn.sameBut.refl _ _) hJ hko hkd hI hl
  · rcases hp with ⟨⟨_, q1⟩ | ⟨q0, _⟩ | ⟨q0, _⟩, hp⟩
    · cases hp
      refine lv_istore (lv' := [(6, .int 1), (0, .ref b), (1, .ref px), (2, .ref pm), (3, .ref po), (4, .ref pd), (5, .int (nI (4 * k)))]) hx hb dL_law_289 hl (by decide) rfl (fun ls hl => ?_)
      refine lv_aload_n hx hb dL_law_291 rfl (lv_at hl 3 rfl) ?_
      refine lv_aload_n hx hb dL_law_292 rfl (lv_at hl 1 rfl) ?_
      refine lv_iload hx hb dL_law_293 (lv_at hl 6 rfl) ?_
      refine lv_iconst (v := 1) hx hb dL_law_295 (by decide) ?_
      refine lv_iadd hx hb dL_law_296 ?_
      rw [show nI (4 * k) + 1 = nI (4 * k + 1) from nI_add _ _]
      refine va_sld hx hb hX hbl hbA hI.2.1 (vp_in_nI (show 4 * k + 1 < N from by omega) (by omega)) dL_law_297 ?_
      refine lv_aload_n hx hb dL_law_298 rfl (lv_at hl 1 rfl) ?_
      refine lv_iload hx hb dL_law_299 (lv_at hl 6 rfl) ?_
      refine lv_iconst (v := 2) hx hb dL_law_301 (by decide) ?_
      refine lv_iadd hx hb dL_law_302 ?_
      rw [show nI (4 * k) + 2 = nI (4 * k + 2) from nI_add _ _]
      refine va_sld hx hb hX hbl hbA hI.2.1 (vp_in_nI (show 4 * k + 2 < N from by omega) (by omega)) dL_law_303 ?_
      refine lv_aload_n hx hb dL_law_304 rfl (lv_at hl 1 rfl) ?_
      refine lv_iload hx hb dL_law_305 (lv_at hl 6 rfl) ?_
      refine lv_iconst (v := 3) hx hb dL_law_307 (by decide) ?_
      refine lv_iadd hx hb dL_law_308 ?_
      rw [show nI (4 * k) + 3 = nI (4 * k + 3) from nI_add _ _]
      refine va_sld hx hb hX hbl hbA hI.2.1 (vp_in_nI (show 4 * k + 3 < N from by omega) (by omega)) dL_law_309 ?_
      refine z_ci hI (va_runV (As := [.int (xs (nI (4 * k + 1)).toNatClampNeg), .int (xs (nI (4 * k + 2)).toNatClampNeg), .int (xs (nI (4 * k + 3)).toNatClampNeg)]) (rest := []) ⟨hx, hb, hml, hown, hts⟩ (c_X11_thread l D tc z0 _ κ g _ pm hkm (xs (nI (4 * k + 1)).toNatClampNeg) (xs (nI (4 * k + 2)).toNatClampNeg) (xs (nI (4 * k + 3)).toNatClampNeg) lc eC nC mC cf lt eT nT mT tf hMo) (cwV 3 hts gL_law_X11_thread rfl rfl rfl (by decide +kernel) ⟨Nat.le_of_ble_eq_true rfl, Nat.le_of_ble_eq_true rfl⟩) (z_preV (Xc := []) hK hE hI [] rfl rfl (z_recv hK hI hkm rfl rfl)) rfl rfl hl.1 rfl (lv_room (Nat.le_of_ble_eq_true rfl)) dL_law_310 ⟨(show 60 + 20 * k + 37 * t + 2 + 2 ≤ 841393 from by omega), (show 400 + 120 * k + 162 * t + 12 + 14 ≤ 6571924 from by omega)⟩) (fun w u H locs hw hI => ?_)
      rcases hw with ⟨v8, ⟨rfl, w1⟩ | ⟨rfl, w1, w2⟩ | ⟨rfl, w1, w2, w3⟩, w0, hu⟩ | ⟨i8, hi8, hx8, w2, w3, w4, e8, q8, hM9, hk9, h81, h812, hκ9, hg9, hf8⟩
      · skip
        cases hu
        have hJ : zJ κ (zup g pm 12 (.int 1)) z0 px pm rq co sp aC aT t := hJ.upM (by decide)
        have hI : zI D tc (zA [] [] s.heap.size) s.heap [] L κ (zup g pm 12 (.int 1)) H locs := hI
        have hcd : (zup g pm 12 (.int 1)) pm 12 = .int 1 := zup_self _ _ _ _
        generalize (zup g pm 12 (.int 1)) = g3 at hI hJ hcd
        refine lv_istore (lv' := [(7, .int w), (6, .int 1), (0, .ref b), (1, .ref px), (2, .ref pm), (3, .ref po), (4, .ref pd), (5, .int (nI (4 * k)))]) hx hb dL_law_313 hl (by decide) rfl (fun ls hl => ?_)
        refine lv_aload_n hx hb dL_law_315 rfl (lv_at hl 4 rfl) ?_
        refine z_ci hI (va_runV (As := []) (rest := []) ⟨hx, hb, hml, hown, hts⟩ (c_X11_thrown l D tc z0 _ κ g3 _ pm hkm) (cwV 0 hts gL_law_X11_thrown rfl rfl rfl (by decide +kernel) ⟨Nat.le_of_ble_eq_true rfl, Nat.le_of_ble_eq_true rfl⟩) (z_preV (Xc := []) hK hE hI [] rfl rfl (z_recv hK hI hkm rfl rfl)) rfl rfl hl.1 rfl (lv_room (Nat.le_of_ble_eq_true rfl)) dL_law_316 ⟨(show 60 + 20 * k + 37 * t + 2 + 2 + 0 ≤ 841393 from by omega), (show 400 + 120 * k + 162 * t + 12 + 14 + 0 ≤ 6571924 from by omega)⟩) (fun w2 u H locs hw hI => ?_)
        obtain ⟨hw2, rfl⟩ := hw
        have hI : zI D tc (zA [] [] s.heap.size) s.heap [] L κ g3 H locs := hI
        obtain rfl : w2 = 1 := Value.int.inj (hw2.symm.trans hcd)
        refine lv_iload hx hb dL_law_319 (lv_at hl 1 rfl) ?_
        refine lv_icmp_eq (tgt := 326) hx hb dL_law_321 (by decide) (fun _ => ?_) (fun hne => absurd rfl hne)
        refine lv_iload hx hb dL_law_326 (lv_at hl 1 rfl) ?_
        refine lv_if_ne (tgt := 343) hx hb dL_law_328 (by decide) (fun _ => ?_) (fun h9 => absurd h9 (by decide))
        refine lv_goto (tgt := 1392) hx hb dL_law_343 (by decide) ?_
        have hl := lv_sub hl [2, 3, 4, 5, 6, 7] (l' := [(0, .ref b), (1, .ref px), (2, .ref pm), (3, .ref po), (4, .ref pd), (5, .int (nI (4 * k)))]) rfl
        refine W.widen (k := 60 + 20 * (k + 1) + 37 * t) (n := 400 + 120 * (k + 1) + 162 * t) (by omega) (by omega) ?_
        refine W.base ?_
        exact hN s.drawn L κ g3 _ _ _ _ (Drawn.sameBut.refl _ _) hJ hko hkd hI hl
      · exact absurd ((hCo.has hMo.bC (by decide)).mpr w1) q1
      · exact absurd ((hCo.has hMo.bC (by decide)).mpr w1) q1
      · exact absurd ((hCo.has hMo.bC (by decide)).mpr ⟨i8, hi8, hx8⟩) q1
    · exact absurd q0 (by decide)
    · exact absurd q0 (by decide)
  · rcases hp with ⟨⟨q0, _⟩ | ⟨_, q1, q2⟩ | ⟨q0, _⟩, hp⟩
    · exact absurd q0 (by decide)
    · cases hp
      refine lv_istore (lv' := [(6, .int 2), (0, .ref b), (1, .ref px), (2, .ref pm), (3, .ref po), (4, .ref pd), (5, .int (nI (4 * k)))]) hx hb dL_law_289 hl (by decide) rfl (fun ls hl => ?_)
      refine lv_aload_n hx hb dL_law_291 rfl (lv_at hl 3 rfl) ?_
      refine lv_aload_n hx hb dL_law_292 rfl (lv_at hl 1 rfl) ?_
      refine lv_iload hx hb dL_law_293 (lv_at hl 6 rfl) ?_
      refine lv_iconst (v := 1) hx hb dL_law_295 (by decide) ?_
      refine lv_iadd hx hb dL_law_296 ?_
      rw [show nI (4 * k) + 1 = nI (4 * k + 1) from nI_add _ _]
      refine va_sld hx hb hX hbl hbA hI.2.1 (vp_in_nI (show 4 * k + 1 < N from by omega) (by omega)) dL_law_297 ?_
      refine lv_aload_n hx hb dL_law_298 rfl (lv_at hl 1 rfl) ?_
      refine lv_iload hx hb dL_law_299 (lv_at hl 6 rfl) ?_
      refine lv_iconst (v := 2) hx hb dL_law_301 (by decide) ?_
      refine lv_iadd hx hb dL_law_302 ?_
      rw [show nI (4 * k) + 2 = nI (4 * k + 2) from nI_add _ _]
      refine va_sld hx hb hX hbl hbA hI.2.1 (vp_in_nI (show 4 * k + 2 < N from by omega) (by omega)) dL_law_303 ?_
      refine lv_aload_n hx hb dL_law_304 rfl (lv_at hl 1 rfl) ?_
      refine lv_iload hx hb dL_law_305 (lv_at hl 6 rfl) ?_
      refine lv_iconst (v := 3) hx hb dL_law_307 (by decide) ?_
      refine lv_iadd hx hb dL_law_308 ?_
      rw [show nI (4 * k) + 3 = nI (4 * k + 3) from nI_add _ _]
      refine va_sld hx hb hX hbl hbA hI.2.1 (vp_in_nI (show 4 * k + 3 < N from by omega) (by omega)) dL_law_309 ?_
      refine z_ci hI (va_runV (As := [.int (xs (nI (4 * k + 1)).toNatClampNeg), .int (xs (nI (4 * k + 2)).toNatClampNeg), .int (xs (nI (4 * k + 3)).toNatClampNeg)]) (rest := []) ⟨hx, hb, hml, hown, hts⟩ (c_X11_thread l D tc z0 _ κ g _ pm hkm (xs (nI (4 * k + 1)).toNatClampNeg) (xs (nI (4 * k + 2)).toNatClampNeg) (xs (nI (4 * k + 3)).toNatClampNeg) lc eC nC mC cf lt eT nT mT tf hMo) (cwV 3 hts gL_law_X11_thread rfl rfl rfl (by decide +kernel) ⟨Nat.le_of_ble_eq_true rfl, Nat.le_of_ble_eq_true rfl⟩) (z_preV (Xc := []) hK hE hI [] rfl rfl (z_recv hK hI hkm rfl rfl)) rfl rfl hl.1 rfl (lv_room (Nat.le_of_ble_eq_true rfl)) dL_law_310 ⟨(show 60 + 20 * k + 37 * t + 2 + 2 ≤ 841393 from by omega), (show 400 + 120 * k + 162 * t + 12 + 14 ≤ 6571924 from by omega)⟩) (fun w u H locs hw hI => ?_)
      rcases hw with ⟨v8, ⟨rfl, w1⟩ | ⟨rfl, w1, w2⟩ | ⟨rfl, w1, w2, w3⟩, w0, hu⟩ | ⟨i8, hi8, hx8, w2, w3, w4, e8, q8, hM9, hk9, h81, h812, hκ9, hg9, hf8⟩
      · obtain ⟨i7, hi7, hx7⟩ := (hCo.has hMo.bC (by decide)).mp q1
        exact absurd hx7 (w1 i7 hi7)
      · skip
        cases hu
        have hJ : zJ κ (zup g pm 12 (.int 2)) z0 px pm rq co sp aC aT t := hJ.upM (by decide)
        have hI : zI D tc (zA [] [] s.heap.size) s.heap [] L κ (zup g pm 12 (.int 2)) H locs := hI
        have hcd : (zup g pm 12 (.int 2)) pm 12 = .int 2 := zup_self _ _ _ _
        generalize (zup g pm 12 (.int 2)) = g3 at hI hJ hcd
        refine lv_istore (lv' := [(7, .int w), (6, .int 2), (0, .ref b), (1, .ref px), (2, .ref pm), (3, .ref po), (4, .ref pd), (5, .int (nI (4 * k)))]) hx hb dL_law_313 hl (by decide) rfl (fun ls hl => ?_)
        refine lv_aload_n hx hb dL_law_315 rfl (lv_at hl 4 rfl) ?_
        refine z_ci hI (va_runV (As := []) (rest := []) ⟨hx, hb, hml, hown, hts⟩ (c_X11_thrown l D tc z0 _ κ g3 _ pm hkm) (cwV 0 hts gL_law_X11_thrown rfl rfl rfl (by decide +kernel) ⟨Nat.le_of_ble_eq_true rfl, Nat.le_of_ble_eq_true rfl⟩) (z_preV (Xc := []) hK hE hI [] rfl rfl (z_recv hK hI hkm rfl rfl)) rfl rfl hl.1 rfl (lv_room (Nat.le_of_ble_eq_true rfl)) dL_law_316 ⟨(show 60 + 20 * k + 37 * t + 2 + 2 + 0 ≤ 841393 from by omega), (show 400 + 120 * k + 162 * t + 12 + 14 + 0 ≤ 6571924 from by omega)⟩) (fun w2 u H locs hw hI => ?_)
        obtain ⟨hw2, rfl⟩ := hw
        have hI : zI D tc (zA [] [] s.heap.size) s.heap [] L κ g3 H locs := hI
        obtain rfl : w2 = 2 := Value.int.inj (hw2.symm.trans hcd)
        refine lv_iload hx hb dL_law_319 (lv_at hl 1 rfl) ?_
        refine lv_icmp_eq (tgt := 326) hx hb dL_law_321 (by decide) (fun _ => ?_) (fun hne => absurd rfl hne)
        refine lv_iload hx hb dL_law_326 (lv_at hl 1 rfl) ?_
        refine lv_if_ne (tgt := 343) hx hb dL_law_328 (by decide) (fun _ => ?_) (fun h9 => absurd h9 (by decide))
        refine lv_goto (tgt := 1392) hx hb dL_law_343 (by decide) ?_
        have hl := lv_sub hl [2, 3, 4, 5, 6, 7] (l' := [(0, .ref b), (1, .ref px), (2, .ref pm), (3, .ref po), (4, .ref pd), (5, .int (nI (4 * k)))]) rfl
        refine W.widen (k := 60 + 20 * (k + 1) + 37 * t) (n := 400 + 120 * (k + 1) + 162 * t) (by omega) (by omega) ?_
        refine W.base ?_
        exact hN s.drawn L κ g3 _ _ _ _ (Drawn.sameBut.refl _ _) hJ hko hkd hI hl
      · exact absurd ⟨w2.1.1, w2.1.2, w2.2⟩ q2
      · exact absurd ⟨w2.1.1, w2.1.2, w2.2⟩ q2
    · exact absurd q0 (by decide)
  · rcases hp with ⟨⟨q0, _⟩ | ⟨q0, _⟩ | ⟨_, q1, q2, q3⟩, hp⟩
    · exact absurd q0 (by decide)
    · exact absurd q0 (by decide)
    · cases hp
      refine lv_istore (lv' := [(6, .int 3), (0, .ref b), (1, .ref px), (2, .ref pm), (3, .ref po), (4, .ref pd), (5, .int (nI (4 * k)))]) hx hb dL_law_289 hl (by decide) rfl (fun ls hl => ?_)
      refine lv_aload_n hx hb dL_law_291 rfl (lv_at hl 3 rfl) ?_
      refine lv_aload_n hx hb dL_law_292 rfl (lv_at hl 1 rfl) ?_
      refine lv_iload hx hb dL_law_293 (lv_at hl 6 rfl) ?_
      refine lv_iconst (v := 1) hx hb dL_law_295 (by decide) ?_
      refine lv_iadd hx hb dL_law_296 ?_
      rw [show nI (4 * k) + 1 = nI (4 * k + 1) from nI_add _ _]
      refine va_sld hx hb hX hbl hbA hI.2.1 (vp_in_nI (show 4 * k + 1 < N from by omega) (by omega)) dL_law_297 ?_
      refine lv_aload_n hx hb dL_law_298 rfl (lv_at hl 1 rfl) ?_
      refine lv_iload hx hb dL_law_299 (lv_at hl 6 rfl) ?_
      refine lv_iconst (v := 2) hx hb dL_law_301 (by decide) ?_
      refine lv_iadd hx hb dL_law_302 ?_
      rw [show nI (4 * k) + 2 = nI (4 * k + 2) from nI_add _ _]
      refine va_sld hx hb hX hbl hbA hI.2.1 (vp_in_nI (show 4 * k + 2 < N from by omega) (by omega)) dL_law_303 ?_
      refine lv_aload_n hx hb dL_law_304 rfl (lv_at hl 1 rfl) ?_
      refine lv_iload hx hb dL_law_305 (lv_at hl 6 rfl) ?_
      refine lv_iconst (v := 3) hx hb dL_law_307 (by decide) ?_
      refine lv_iadd hx hb dL_law_308 ?_
      rw [show nI (4 * k) + 3 = nI (4 * k + 3) from nI_add _ _]
      refine va_sld hx hb hX hbl hbA hI.2.1 (vp_in_nI (show 4 * k + 3 < N from by omega) (by omega)) dL_law_309 ?_
      refine z_ci hI (va_runV (As := [.int (xs (nI (4 * k + 1)).toNatClampNeg), .int (xs (nI (4 * k + 2)).toNatClampNeg), .int (xs (nI (4 * k + 3)).toNatClampNeg)]) (rest := []) ⟨hx, hb, hml, hown, hts⟩ (c_X11_thread l D tc z0 _ κ g _ pm hkm (xs (nI (4 * k + 1)).toNatClampNeg) (xs (nI (4 * k + 2)).toNatClampNeg) (xs (nI (4 * k + 3)).toNatClampNeg) lc eC nC mC cf lt eT nT mT tf hMo) (cwV 3 hts gL_law_X11_thread rfl rfl rfl (by decide +kernel) ⟨Nat.le_of_ble_eq_true rfl, Nat.le_of_ble_eq_true rfl⟩) (z_preV (Xc := []) hK hE hI [] rfl rfl (z_recv hK hI hkm rfl rfl)) rfl rfl hl.1 rfl (lv_room (Nat.le_of_ble_eq_true rfl)) dL_law_310 ⟨(show 60 + 20 * k + 37 * t + 2 + 2 ≤ 841393 from by omega), (show 400 + 120 * k + 162 * t + 12 + 14 ≤ 6571924 from by omega)⟩) (fun w u H locs hw hI => ?_)
      rcases hw with ⟨v8, ⟨rfl, w1⟩ | ⟨rfl, w1, w2⟩ | ⟨rfl, w1, w2, w3⟩, w0, hu⟩ | ⟨i8, hi8, hx8, w2, w3, w4, e8, q8, hM9, hk9, h81, h812, hκ9, hg9, hf8⟩
      · obtain ⟨i7, hi7, hx7⟩ := (hCo.has hMo.bC (by decide)).mp q1
        exact absurd hx7 (w1 i7 hi7)
      · exact absurd ⟨⟨q2.1, q2.2.1⟩, q2.2.2⟩ w2
      · skip
        cases hu
        have hJ : zJ κ (zup g pm 12 (.int 3)) z0 px pm rq co sp aC aT t := hJ.upM (by decide)
        have hI : zI D tc (zA [] [] s.heap.size) s.heap [] L κ (zup g pm 12 (.int 3)) H locs := hI
        have hcd : (zup g pm 12 (.int 3)) pm 12 = .int 3 := zup_self _ _ _ _
        generalize (zup g pm 12 (.int 3)) = g3 at hI hJ hcd
        refine lv_istore (lv' := [(7, .int w), (6, .int 3), (0, .ref b), (1, .ref px), (2, .ref pm), (3, .ref po), (4, .ref pd), (5, .int (nI (4 * k)))]) hx hb dL_law_313 hl (by decide) rfl (fun ls hl => ?_)
        refine lv_aload_n hx hb dL_law_315 rfl (lv_at hl 4 rfl) ?_
        refine z_ci hI (va_runV (As := []) (rest := []) ⟨hx, hb, hml, hown, hts⟩ (c_X11_thrown l D tc z0 _ κ g3 _ pm hkm) (cwV 0 hts gL_law_X11_thrown rfl rfl rfl (by decide +kernel) ⟨Nat.le_of_ble_eq_true rfl, Nat.le_of_ble_eq_true rfl⟩) (z_preV (Xc := []) hK hE hI [] rfl rfl (z_recv hK hI hkm rfl rfl)) rfl rfl hl.1 rfl (lv_room (Nat.le_of_ble_eq_true rfl)) dL_law_316 ⟨(show 60 + 20 * k + 37 * t + 2 + 2 + 0 ≤ 841393 from by omega), (show 400 + 120 * k + 162 * t + 12 + 14 + 0 ≤ 6571924 from by omega)⟩) (fun w2 u H locs hw hI => ?_)
        obtain ⟨hw2, rfl⟩ := hw
        have hI : zI D tc (zA [] [] s.heap.size) s.heap [] L κ g3 H locs := hI
        obtain rfl : w2 = 3 := Value.int.inj (hw2.symm.trans hcd)
        refine lv_iload hx hb dL_law_319 (lv_at hl 1 rfl) ?_
        refine lv_icmp_eq (tgt := 326) hx hb dL_law_321 (by decide) (fun _ => ?_) (fun hne => absurd rfl hne)
        refine lv_iload hx hb dL_law_326 (lv_at hl 1 rfl) ?_
        refine lv_if_ne (tgt := 343) hx hb dL_law_328 (by decide) (fun _ => ?_) (fun h9 => absurd h9 (by decide))
        refine lv_goto (tgt := 1392) hx hb dL_law_343 (by decide) ?_
        have hl := lv_sub hl [2, 3, 4, 5, 6, 7] (l' := [(0, .ref b), (1, .ref px), (2, .ref pm), (3, .ref po), (4, .ref pd), (5, .int (nI (4 * k)))]) rfl
        refine W.widen (k := 60 + 20 * (k + 1) + 37 * t) (n := 400 + 120 * (k + 1) + 162 * t) (by omega) (by omega) ?_
        refine W.base ?_
        exact hN s.drawn L κ g3 _ _ _ _ (Drawn.sameBut.refl _ _) hJ hko hkd hI hl
      · exact absurd w3 (by rw [hTh.full hMo.bT q3]; decide)

set_option maxHeartbeats 4000000 in
set_option maxRecDepth 100000 in
theorem k_feed (l : Launch) (hnt : l.stackTraces = false) {p : Program} {e : Env} {s : State} {m : MethodId} {below : List Frame} {meth : Method} {c : Code} {H : Heap} {locs : List Loc} {Q : State → Prop} {D : va_G} {tc : Nat → ClassId} {z0 b N : Nat} {xs : Nat → Int32} {px pm po pd rq co sp aC aT t k : Nat} {L : List Nat} {κ : Nat → Nat} {g : Nat → Nat → Value} {ls : Array Slot} (C : lwC p s m meth c b N xs D tc z0) (hk : 4 * k + 4 ≤ N) (hN8 : N ≤ 2048) (hJ : zJ κ g z0 px pm rq co sp aC aT t) (hko : κ po = 29) (hkd : κ pd = 30) (hI : zI D tc (zA [] [] s.heap.size) s.heap [] L κ g H locs) (hl : lv_has ls 9 [(0, .ref b), (1, .ref px), (2, .ref pm), (3, .ref po), (4, .ref pd), (5, .int (nI (4 * k)))]) (hN : lwN p l e s m below meth c b D tc z0 px pm po pd rq co sp aC aT k Q) : W p l e room_1 s m #[Value.ref b] below meth c H locs (60 + 20 * k + 37 * t) (400 + 120 * k + 162 * t) Q (F0 m 346 ls []) := by
  obtain ⟨hx, hb, hml, hown, hts, hK, hE, hX, hbl⟩ := C
  have hbA : ¬ zA [] [] s.heap.size b := fun q => by rcases q with q | q | q; exact absurd q List.not_mem_nil; exact absurd q List.not_mem_nil; exact absurd hbl (Nat.not_lt.mpr q)
  have htb9 : t ≤ 9999 := hJ.1.2.2.1.2
  refine lv_aload_n hx hb dL_law_346 rfl (lv_at hl 1 rfl) ?_
  refine lv_aload_n hx hb dL_law_347 rfl (lv_at hl 0 rfl) ?_
  refine lv_iload hx hb dL_law_348 (lv_at hl 5 rfl) ?_
  refine lv_iconst (v := 1) hx hb dL_law_350 (by decide) ?_
  refine lv_iadd hx hb dL_law_351 ?_
  rw [show nI (4 * k) + 1 = nI (4 * k + 1) from nI_add _ _]
  refine va_sld hx hb hX hbl hbA hI.2.1 (vp_in_nI (show 4 * k + 1 < N from by omega) (by omega)) dL_law_352 ?_
  refine lv_aload_n hx hb dL_law_353 rfl (lv_at hl 0 rfl) ?_
  refine lv_iload hx hb dL_law_354 (lv_at hl 5 rfl) ?_
  refine lv_iconst (v := 2) hx hb dL_law_356 (by decide) ?_
  refine lv_iadd hx hb dL_law_357 ?_
  rw [show nI (4 * k) + 2 = nI (4 * k + 2) from nI_add _ _]
  refine va_sld hx hb hX hbl hbA hI.2.1 (vp_in_nI (show 4 * k + 2 < N from by omega) (by omega)) dL_law_358 ?_
  refine lv_aload_n hx hb dL_law_359 rfl (lv_at hl 3 rfl) ?_
  obtain ⟨⟨⟨hkx, hkm, hkq, hkO, hkS, hkC, hkT⟩, ⟨hR, hO, hS9, hC, hT⟩, ⟨htM, htb⟩, lc, eC, nC, mC, cf, lt, eT, nT, mT, tf, hMo, hCo, hTh⟩, a0, a1, a2, a3, a4, a5, a6, a7⟩ := id hJ
  refine z_xi hI (vx_runSX (As := [.ref px, .int (xs (nI (4 * k + 1)).toNatClampNeg), .int (xs (nI (4 * k + 2)).toNatClampNeg), .ref po]) (rest := []) ⟨hx, hb, hml, hown, hts⟩ (c_L_feed l hnt D tc z0 _ κ g _ px hkx (xs (nI (4 * k + 1)).toNatClampNeg) (xs (nI (4 * k + 2)).toNatClampNeg) po hko aT hT) (vx_cwSW 4 hts gL_law_L_feed rfl rfl rfl (by decide +kernel) ⟨Nat.le_of_ble_eq_true rfl, Nat.le_of_ble_eq_true rfl⟩) (z_pre (Xc := []) hK hE hI [] rfl rfl) rfl rfl hl.1 rfl (lv_room (Nat.le_of_ble_eq_true rfl)) dL_law_360 ⟨(show 60 + 20 * k + 37 * t + 2 ≤ 841393 from by omega), (show 400 + 120 * k + 162 * t + 12 ≤ 6571924 from by omega)⟩) (fun E ce q9 u H locs hw hI he1 he2 he3 => hw.elim) (fun v u H locs hw hI => ?_)
  obtain ⟨L1, κ1, g1⟩ := u
  have hI : zI D tc (zA [] [] s.heap.size) s.heap [] L1 κ1 g1 H locs := hI
  have hJ : zJ κ1 g1 z0 px pm rq co sp aC aT t ∧ κ1 po = 29 ∧ κ1 pd = 30 := by
    rcases hw with ⟨_, r1, u1, v9, hp, hv9, hu⟩ | ⟨_, hp⟩ | ⟨_, hp⟩ | ⟨_, hp⟩
    · cases hu
      obtain ⟨_, hp⟩ := hp
      cases hp
      exact ⟨hJ.up hko (by decide), hko, hkd⟩
    · obtain ⟨_, hp⟩ := hp
      cases hp
      exact ⟨hJ, hko, hkd⟩
    · obtain ⟨_, hp⟩ := hp
      cases hp
      exact ⟨hJ, hko, hkd⟩
    · obtain ⟨_, hp⟩ := hp
      cases hp
      exact ⟨hJ, hko, hkd⟩
  obtain ⟨hJ, hko, hkd⟩ := hJ
  clear hw
  obtain ⟨L, rfl⟩ : ∃ x, x = L1 := ⟨_, rfl⟩
  obtain ⟨κ, rfl⟩ : ∃ x, x = κ1 := ⟨_, rfl⟩
  obtain ⟨g, rfl⟩ : ∃ x, x = g1 := ⟨_, rfl⟩
  refine lv_istore (lv' := [(6, .int v), (0, .ref b), (1, .ref px), (2, .ref pm), (3, .ref po), (4, .ref pd), (5, .int (nI (4 * k)))]) hx hb dL_law_363 hl (by decide) rfl (fun ls hl => ?_)
  refine lv_aload_n hx hb dL_law_365 rfl (lv_at hl 3 rfl) ?_
  refine lv_aload_n hx hb dL_law_366 rfl (lv_at hl 1 rfl) ?_
  refine lv_iload hx hb dL_law_367 (lv_at hl 6 rfl) ?_
  refine lv_iconst (v := 1) hx hb dL_law_369 (by decide) ?_
  refine lv_iadd hx hb dL_law_370 ?_
  rw [show nI (4 * k) + 1 = nI (4 * k + 1) from nI_add _ _]
  refine va_sld hx hb hX hbl hbA hI.2.1 (vp_in_nI (show 4 * k + 1 < N from by omega) (by omega)) dL_law_371 ?_
  refine lv_aload_n hx hb dL_law_372 rfl (lv_at hl 1 rfl) ?_
  refine lv_iload hx hb dL_law_373 (lv_at hl 6 rfl) ?_
  refine lv_iconst (v := 2) hx hb dL_law_375 (by decide) ?_
  refine lv_iadd hx hb dL_law_376 ?_
  rw [show nI (4 * k) + 2 = nI (4 * k + 2) from nI_add _ _]
  refine va_sld hx hb hX hbl hbA hI.2.1 (vp_in_nI (show 4 * k + 2 < N from by omega) (by omega)) dL_law_377 ?_
  obtain ⟨⟨⟨hkx, hkm, hkq, hkO, hkS, hkC, hkT⟩, ⟨hR, hO, hS9, hC, hT⟩, ⟨htM, htb⟩, lc, eC, nC, mC, cf, lt, eT, nT, mT, tf, hMo, hCo, hTh⟩, a0, a1, a2, a3, a4, a5, a6, a7⟩ := id hJ
  refine z_ci hI (va_runV (As := [.int (xs (nI (4 * k + 1)).toNatClampNeg), .int (xs (nI (4 * k + 2)).toNatClampNeg)]) (rest := []) ⟨hx, hb, hml, hown, hts⟩ (c_X11_feed l D tc z0 _ κ g _ pm hkm (xs (nI (4 * k + 1)).toNatClampNeg) (xs (nI (4 * k + 2)).toNatClampNeg) lc eC nC mC cf lt eT nT mT tf hMo ) (cwV 2 hts gL_law_X11_feed rfl rfl rfl (by decide +kernel) ⟨Nat.le_of_ble_eq_true rfl, Nat.le_of_ble_eq_true rfl⟩) (z_preV (Xc := []) hK hE hI [] rfl rfl (z_recv hK hI hkm rfl rfl)) rfl rfl hl.1 rfl (lv_room (Nat.le_of_ble_eq_true rfl)) dL_law_378 ⟨(show 60 + 20 * k + 37 * t + 2 + 0 ≤ 841393 from by omega), (show 400 + 120 * k + 162 * t + 12 + 0 ≤ 6571924 from by omega)⟩) (fun w u H locs hw hI => ?_)
  obtain ⟨x9, rfl⟩ := hw
  have hJ := hJ.upM (j := 12) (v := .int x9) (by decide)
  have hI : zI D tc (zA [] [] s.heap.size) s.heap [] L κ (zup g pm 12 (.int x9)) H locs := hI
  generalize (zup g pm 12 (.int x9)) = g at hI hJ
  refine lv_istore (lv' := [(7, .int w), (6, .int v), (0, .ref b), (1, .ref px), (2, .ref pm), (3, .ref po), (4, .ref pd), (5, .int (nI (4 * k)))]) hx hb dL_law_381 hl (by decide) rfl (fun ls hl => ?_)
  refine lv_goto (tgt := 1392) hx hb dL_law_383 (by decide) ?_
  have hl := lv_sub hl [2, 3, 4, 5, 6, 7] (l' := [(0, .ref b), (1, .ref px), (2, .ref pm), (3, .ref po), (4, .ref pd), (5, .int (nI (4 * k)))]) rfl
  refine W.widen (k := 60 + 20 * (k + 1) + 37 * t) (n := 400 + 120 * (k + 1) + 162 * t) (by omega) (by omega) ?_
  refine W.base ?_
  exact hN s.drawn L κ g _ _ _ _ (Drawn.sameBut.refl _ _) hJ hko hkd hI hl

set_option maxHeartbeats 4000000 in
set_option maxRecDepth 100000 in
theorem k_move (l : Launch) (hnt : l.stackTraces = false) {p : Program} {e : Env} {s : State} {m : MethodId} {below : List Frame} {meth : Method} {c : Code} {H : Heap} {locs : List Loc} {Q : State → Prop} {D : va_G} {tc : Nat → ClassId} {z0 b N : Nat} {xs : Nat → Int32} {px pm po pd rq co sp aC aT t k : Nat} {L : List Nat} {κ : Nat → Nat} {g : Nat → Nat → Value} {ls : Array Slot} (C : lwC p s m meth c b N xs D tc z0) (hk : 4 * k + 4 ≤ N) (hN8 : N ≤ 2048) (hJ : zJ κ g z0 px pm rq co sp aC aT t) (hko : κ po = 29) (hkd : κ pd = 30) (hI : zI D tc (zA [] [] s.heap.size) s.heap [] L κ g H locs) (hl : lv_has ls 9 [(0, .ref b), (1, .ref px), (2, .ref pm), (3, .ref po), (4, .ref pd), (5, .int (nI (4 * k)))]) (hN : lwN p l e s m below meth c b D tc z0 px pm po pd rq co sp aC aT k Q) : W p l e room_1 s m #[Value.ref b] below meth c H locs (60 + 20 * k + 37 * t) (400 + 120 * k + 162 * t) Q (F0 m 386 ls []) := by
  obtain ⟨hx, hb, hml, hown, hts, hK, hE, hX, hbl⟩ := C
  have hbA : ¬ zA [] [] s.heap.size b := fun q => by rcases q with q | q | q; exact absurd q List.not_mem_nil; exact absurd q List.not_mem_nil; exact absurd hbl (Nat.not_lt.mpr q)
  have htb9 : t ≤ 9999 := hJ.1.2.2.1.2
  refine lv_aload_n hx hb dL_law_386 rfl (lv_at hl 1 rfl) ?_
  refine lv_aload_n hx hb dL_law_387 rfl (lv_at hl 0 rfl) ?_
  refine lv_iload hx hb dL_law_388 (lv_at hl 5 rfl) ?_
  refine lv_iconst (v := 1) hx hb dL_law_390 (by decide) ?_
  refine lv_iadd hx hb dL_law_391 ?_
  rw [show nI (4 * k) + 1 = nI (4 * k + 1) from nI_add _ _]
  refine va_sld hx hb hX hbl hbA hI.2.1 (vp_in_nI (show 4 * k + 1 < N from by omega) (by omega)) dL_law_392 ?_
  refine lv_aload_n hx hb dL_law_393 rfl (lv_at hl 0 rfl) ?_
  refine lv_iload hx hb dL_law_394 (lv_at hl 5 rfl) ?_
  refine lv_iconst (v := 2) hx hb dL_law_396 (by decide) ?_
  refine lv_iadd hx hb dL_law_397 ?_
  rw [show nI (4 * k) + 2 = nI (4 * k + 2) from nI_add _ _]
  refine va_sld hx hb hX hbl hbA hI.2.1 (vp_in_nI (show 4 * k + 2 < N from by omega) (by omega)) dL_law_398 ?_
  refine lv_aload_n hx hb dL_law_399 rfl (lv_at hl 3 rfl) ?_
  obtain ⟨⟨⟨hkx, hkm, hkq, hkO, hkS, hkC, hkT⟩, ⟨hR, hO, hS9, hC, hT⟩, ⟨htM, htb⟩, lc, eC, nC, mC, cf, lt, eT, nT, mT, tf, hMo, hCo, hTh⟩, a0, a1, a2, a3, a4, a5, a6, a7⟩ := id hJ
  refine z_xi hI (vx_runSX (As := [.ref px, .int (xs (nI (4 * k + 1)).toNatClampNeg), .int (xs (nI (4 * k + 2)).toNatClampNeg), .ref po]) (rest := []) ⟨hx, hb, hml, hown, hts⟩ (c_L_move l hnt D tc z0 _ κ g _ px hkx (xs (nI (4 * k + 1)).toNatClampNeg) (xs (nI (4 * k + 2)).toNatClampNeg) po hko aT hT aC hC) (vx_cwSW 4 hts gL_law_L_move rfl rfl rfl (by decide +kernel) ⟨Nat.le_of_ble_eq_true rfl, Nat.le_of_ble_eq_true rfl⟩) (z_pre (Xc := []) hK hE hI [] rfl rfl) rfl rfl hl.1 rfl (lv_room (Nat.le_of_ble_eq_true rfl)) dL_law_400 ⟨(show 60 + 20 * k + 37 * t + 3 ≤ 841393 from by omega), (show 400 + 120 * k + 162 * t + 18 ≤ 6571924 from by omega)⟩) (fun E ce q9 u H locs hw hI he1 he2 he3 => hw.elim) (fun v u H locs hw hI => ?_)
  have hbC := hMo.bC
  have hbT := hMo.bT
  rcases hw with ⟨rfl, r1, u1, v9, hp, hv9, hu⟩ | ⟨rfl, hp⟩ | ⟨rfl, hp⟩
  · obtain ⟨a, hka, q1, q2, qh, q4, qn, hp⟩ := hp
    cases hp
    cases hu
    obtain ⟨i9, hi9, hx9⟩ : ∃ i9, i9 < nT ∧ ((xs (nI (4 * k + 1)).toNatClampNeg)) = nI i9 := (hTh.has hMo.bT (by decide)).mp ⟨q1, _, q2⟩
    rw [hx9] at q2
    obtain ⟨hia, -, hkc, hps⟩ := hTh.nth hMo.bT (by decide) hi9 q2
    obtain ⟨j9, hj9, hy9⟩ := (hCo.has hMo.bC (by decide)).mp qh
    have hM1 : zMo κ (zup (zup g a 1 (.int ((xs (nI (4 * k + 2)).toNatClampNeg)))) po 0 (.long v9)) z0 pm lc eC nC mC cf lt eT nT mT tf := (hMo.upO hka (by decide)).upO hko (by decide)
    have hI : zI D tc (zA [] [] s.heap.size) s.heap [] L κ (zup (zup g a 1 (.int ((xs (nI (4 * k + 2)).toNatClampNeg)))) po 0 (.long v9)) H locs := hI
    obtain ⟨g1, hg1⟩ : ∃ x, x = (zup (zup g a 1 (.int ((xs (nI (4 * k + 2)).toNatClampNeg)))) po 0 (.long v9)) := ⟨_, rfl⟩
    rw [← hg1] at hI hM1
    refine lv_istore (lv' := [(6, .int 0), (0, .ref b), (1, .ref px), (2, .ref pm), (3, .ref po), (4, .ref pd), (5, .int (nI (4 * k)))]) hx hb dL_law_403 hl (by decide) rfl (fun ls hl => ?_)
    refine lv_aload_n hx hb dL_law_405 rfl (lv_at hl 3 rfl) ?_
    refine lv_aload_n hx hb dL_law_406 rfl (lv_at hl 1 rfl) ?_
    refine lv_iload hx hb dL_law_407 (lv_at hl 6 rfl) ?_
    refine lv_iconst (v := 1) hx hb dL_law_409 (by decide) ?_
    refine lv_iadd hx hb dL_law_410 ?_
    rw [show nI (4 * k) + 1 = nI (4 * k + 1) from nI_add _ _]
    refine va_sld hx hb hX hbl hbA hI.2.1 (vp_in_nI (show 4 * k + 1 < N from by omega) (by omega)) dL_law_411 ?_
    refine lv_aload_n hx hb dL_law_412 rfl (lv_at hl 1 rfl) ?_
    refine lv_iload hx hb dL_law_413 (lv_at hl 6 rfl) ?_
    refine lv_iconst (v := 2) hx hb dL_law_415 (by decide) ?_
    refine lv_iadd hx hb dL_law_416 ?_
    rw [show nI (4 * k) + 2 = nI (4 * k + 2) from nI_add _ _]
    refine va_sld hx hb hX hbl hbA hI.2.1 (vp_in_nI (show 4 * k + 2 < N from by omega) (by omega)) dL_law_417 ?_
    refine z_ci hI (va_runV (As := [.int (xs (nI (4 * k + 1)).toNatClampNeg), .int (xs (nI (4 * k + 2)).toNatClampNeg)]) (rest := []) ⟨hx, hb, hml, hown, hts⟩ (c_X11_move l D tc z0 _ κ g1 _ pm hkm (xs (nI (4 * k + 1)).toNatClampNeg) (xs (nI (4 * k + 2)).toNatClampNeg) lc eC nC mC cf lt eT nT mT tf hM1) (cwV 2 hts gL_law_X11_move rfl rfl rfl (by decide +kernel) ⟨Nat.le_of_ble_eq_true rfl, Nat.le_of_ble_eq_true rfl⟩) (z_preV (Xc := []) hK hE hI [] rfl rfl (z_recv hK hI hkm rfl rfl)) rfl rfl hl.1 rfl (lv_room (Nat.le_of_ble_eq_true rfl)) dL_law_418 ⟨(show 60 + 20 * k + 37 * t + 3 + 0 ≤ 841393 from by omega), (show 400 + 120 * k + 162 * t + 18 + 0 ≤ 6571924 from by omega)⟩) (fun w u H locs hw hI => ?_)
    rcases hw with ⟨v8, ⟨rfl, hno⟩ | ⟨rfl, i8, j8, hi8, hx8, hj8, hy8, w3⟩, hu⟩ | ⟨i8, j8, hi8, hx8, hj8, hy8, w3, w5, hu⟩
    · exact hno.elim (fun h => absurd hx9 (h i9 hi9)) (fun h => absurd hy9 (h j9 hj9))
    · have e8 : i8 = i9 := (nI_eq (by omega) (by omega)).mp (hx8.symm.trans hx9)
      rw [e8] at w3
      have hgc : g1 (tf i9) 1 = g (tf i9) 1 := by rw [hg1]; exact (zup_a (z_apart hkc hko (by decide))).trans (zup_a (z_apart hkc hka (by decide)))
      exact absurd ((Value.int.inj (q4.symm.trans ((hps (1, 1) (by decide)).trans (hgc.symm.trans w3)))).trans hy8.symm) qn
    · have e8 : i8 = i9 := (nI_eq (by omega) (by omega)).mp (hx8.symm.trans hx9)
      rw [e8] at w3 hu
      rw [← hy8] at hu
      cases hu
      have hgc : g1 (tf i9) 1 = g (tf i9) 1 := by rw [hg1]; exact (zup_a (z_apart hkc hko (by decide))).trans (zup_a (z_apart hkc hka (by decide)))
      have hrw : r1 = w := Value.int.inj (q4.symm.trans ((hps (1, 1) (by decide)).trans (hgc.symm.trans w3)))
      rw [hg1] at hI
      have hJ : zJ κ (zup (zup (zup (zup g a 1 (.int ((xs (nI (4 * k + 2)).toNatClampNeg)))) po 0 (.long v9)) pm 12 (.int 0)) (tf i9) 1 (.int ((xs (nI (4 * k + 2)).toNatClampNeg)))) z0 px pm rq co sp aC aT t := zJ.setT hJ hMo hCo hTh hi9 hia hka hkc hko
      have hI : zI D tc (zA [] [] s.heap.size) s.heap [] L κ (zup (zup (zup (zup g a 1 (.int ((xs (nI (4 * k + 2)).toNatClampNeg)))) po 0 (.long v9)) pm 12 (.int 0)) (tf i9) 1 (.int ((xs (nI (4 * k + 2)).toNatClampNeg)))) H locs := hI
      generalize (zup (zup (zup (zup g a 1 (.int ((xs (nI (4 * k + 2)).toNatClampNeg)))) po 0 (.long v9)) pm 12 (.int 0)) (tf i9) 1 (.int ((xs (nI (4 * k + 2)).toNatClampNeg)))) = g3 at hI hJ
      refine lv_istore (lv' := [(7, .int w), (6, .int 0), (0, .ref b), (1, .ref px), (2, .ref pm), (3, .ref po), (4, .ref pd), (5, .int (nI (4 * k)))]) hx hb dL_law_421 hl (by decide) rfl (fun ls hl => ?_)
      refine lv_goto (tgt := 1392) hx hb dL_law_423 (by decide) ?_
      have hl := lv_sub hl [2, 3, 4, 5, 6, 7] (l' := [(0, .ref b), (1, .ref px), (2, .ref pm), (3, .ref po), (4, .ref pd), (5, .int (nI (4 * k)))]) rfl
      refine W.widen (k := 60 + 20 * (k + 1) + 37 * t) (n := 400 + 120 * (k + 1) + 162 * t) (by omega) (by omega) ?_
      refine W.base ?_
      exact hN s.drawn L κ g3 _ _ _ _ (Drawn.sameBut.refl _ _) hJ hko hkd hI hl
  · rcases hp with ⟨⟨_, q1⟩ | ⟨q0, _⟩, hp⟩
    · cases hp
      refine lv_istore (lv' := [(6, .int 1), (0, .ref b), (1, .ref px), (2, .ref pm), (3, .ref po), (4, .ref pd), (5, .int (nI (4 * k)))]) hx hb dL_law_403 hl (by decide) rfl (fun ls hl => ?_)
      refine lv_aload_n hx hb dL_law_405 rfl (lv_at hl 3 rfl) ?_
      refine lv_aload_n hx hb dL_law_406 rfl (lv_at hl 1 rfl) ?_
      refine lv_iload hx hb dL_law_407 (lv_at hl 6 rfl) ?_
      refine lv_iconst (v := 1) hx hb dL_law_409 (by decide) ?_
      refine lv_iadd hx hb dL_law_410 ?_
      rw [show nI (4 * k) + 1 = nI (4 * k + 1) from nI_add _ _]
      refine va_sld hx hb hX hbl hbA hI.2.1 (vp_in_nI (show 4 * k + 1 < N from by omega) (by omega)) dL_law_411 ?_
      refine lv_aload_n hx hb dL_law_412 rfl (lv_at hl 1 rfl) ?_
      refine lv_iload hx hb dL_law_413 (lv_at hl 6 rfl) ?_
      refine lv_iconst (v := 2) hx hb dL_law_415 (by decide) ?_
      refine lv_iadd hx hb dL_law_416 ?_
      rw [show nI (4 * k) + 2 = nI (4 * k + 2) from nI_add _ _]
      refine va_sld hx hb hX hbl hbA hI.2.1 (vp_in_nI (show 4 * k + 2 < N from by omega) (by omega)) dL_law_417 ?_
      refine z_ci hI (va_runV (As := [.int (xs (nI (4 * k + 1)).toNatClampNeg), .int (xs (nI (4 * k + 2)).toNatClampNeg)]) (rest := []) ⟨hx, hb, hml, hown, hts⟩ (c_X11_move l D tc z0 _ κ g _ pm hkm (xs (nI (4 * k + 1)).toNatClampNeg) (xs (nI (4 * k + 2)).toNatClampNeg) lc eC nC mC cf lt eT nT mT tf hMo) (cwV 2 hts gL_law_X11_move rfl rfl rfl (by decide +kernel) ⟨Nat.le_of_ble_eq_true rfl, Nat.le_of_ble_eq_true rfl⟩) (z_preV (Xc := []) hK hE hI [] rfl rfl (z_recv hK hI hkm rfl rfl)) rfl rfl hl.1 rfl (lv_room (Nat.le_of_ble_eq_true rfl)) dL_law_418 ⟨(show 60 + 20 * k + 37 * t + 3 + 0 ≤ 841393 from by omega), (show 400 + 120 * k + 162 * t + 18 + 0 ≤ 6571924 from by omega)⟩) (fun w u H locs hw hI => ?_)
      rcases hw with ⟨v8, ⟨rfl, hno⟩ | ⟨rfl, i8, j8, hi8, hx8, hj8, hy8, w3⟩, hu⟩ | ⟨i8, j8, hi8, hx8, hj8, hy8, w3, w5, hu⟩
      · skip
        cases hu
        have hJ : zJ κ (zup g pm 12 (.int 1)) z0 px pm rq co sp aC aT t := hJ.upM (by decide)
        have hI : zI D tc (zA [] [] s.heap.size) s.heap [] L κ (zup g pm 12 (.int 1)) H locs := hI
        generalize (zup g pm 12 (.int 1)) = g3 at hI hJ
        refine lv_istore (lv' := [(7, .int w), (6, .int 1), (0, .ref b), (1, .ref px), (2, .ref pm), (3, .ref po), (4, .ref pd), (5, .int (nI (4 * k)))]) hx hb dL_law_421 hl (by decide) rfl (fun ls hl => ?_)
        refine lv_goto (tgt := 1392) hx hb dL_law_423 (by decide) ?_
        have hl := lv_sub hl [2, 3, 4, 5, 6, 7] (l' := [(0, .ref b), (1, .ref px), (2, .ref pm), (3, .ref po), (4, .ref pd), (5, .int (nI (4 * k)))]) rfl
        refine W.widen (k := 60 + 20 * (k + 1) + 37 * t) (n := 400 + 120 * (k + 1) + 162 * t) (by omega) (by omega) ?_
        refine W.base ?_
        exact hN s.drawn L κ g3 _ _ _ _ (Drawn.sameBut.refl _ _) hJ hko hkd hI hl
      · exact (q1.elim (fun h => h ((hTh.has hMo.bT (by decide)).mpr ⟨i8, hi8, hx8⟩)) (fun h => h ((hCo.has hMo.bC (by decide)).mpr ⟨j8, hj8, hy8⟩))).elim
      · exact (q1.elim (fun h => h ((hTh.has hMo.bT (by decide)).mpr ⟨i8, hi8, hx8⟩)) (fun h => h ((hCo.has hMo.bC (by decide)).mpr ⟨j8, hj8, hy8⟩))).elim
    · exact absurd q0 (by decide)
  · rcases hp with ⟨⟨q0, _⟩ | ⟨_, qh, q1, a, q2, q4⟩, hp⟩
    · exact absurd q0 (by decide)
    · cases hp
      obtain ⟨i9, hi9, hx9⟩ : ∃ i9, i9 < nT ∧ ((xs (nI (4 * k + 1)).toNatClampNeg)) = nI i9 := (hTh.has hMo.bT (by decide)).mp ⟨q1, _, q2⟩
      rw [hx9] at q2
      obtain ⟨hia, hka, hkc, hps⟩ := hTh.nth hMo.bT (by decide) hi9 q2
      obtain ⟨j9, hj9, hy9⟩ := (hCo.has hMo.bC (by decide)).mp qh
      refine lv_istore (lv' := [(6, .int 2), (0, .ref b), (1, .ref px), (2, .ref pm), (3, .ref po), (4, .ref pd), (5, .int (nI (4 * k)))]) hx hb dL_law_403 hl (by decide) rfl (fun ls hl => ?_)
      refine lv_aload_n hx hb dL_law_405 rfl (lv_at hl 3 rfl) ?_
      refine lv_aload_n hx hb dL_law_406 rfl (lv_at hl 1 rfl) ?_
      refine lv_iload hx hb dL_law_407 (lv_at hl 6 rfl) ?_
      refine lv_iconst (v := 1) hx hb dL_law_409 (by decide) ?_
      refine lv_iadd hx hb dL_law_410 ?_
      rw [show nI (4 * k) + 1 = nI (4 * k + 1) from nI_add _ _]
      refine va_sld hx hb hX hbl hbA hI.2.1 (vp_in_nI (show 4 * k + 1 < N from by omega) (by omega)) dL_law_411 ?_
      refine lv_aload_n hx hb dL_law_412 rfl (lv_at hl 1 rfl) ?_
      refine lv_iload hx hb dL_law_413 (lv_at hl 6 rfl) ?_
      refine lv_iconst (v := 2) hx hb dL_law_415 (by decide) ?_
      refine lv_iadd hx hb dL_law_416 ?_
      rw [show nI (4 * k) + 2 = nI (4 * k + 2) from nI_add _ _]
      refine va_sld hx hb hX hbl hbA hI.2.1 (vp_in_nI (show 4 * k + 2 < N from by omega) (by omega)) dL_law_417 ?_
      refine z_ci hI (va_runV (As := [.int (xs (nI (4 * k + 1)).toNatClampNeg), .int (xs (nI (4 * k + 2)).toNatClampNeg)]) (rest := []) ⟨hx, hb, hml, hown, hts⟩ (c_X11_move l D tc z0 _ κ g _ pm hkm (xs (nI (4 * k + 1)).toNatClampNeg) (xs (nI (4 * k + 2)).toNatClampNeg) lc eC nC mC cf lt eT nT mT tf hMo) (cwV 2 hts gL_law_X11_move rfl rfl rfl (by decide +kernel) ⟨Nat.le_of_ble_eq_true rfl, Nat.le_of_ble_eq_true rfl⟩) (z_preV (Xc := []) hK hE hI [] rfl rfl (z_recv hK hI hkm rfl rfl)) rfl rfl hl.1 rfl (lv_room (Nat.le_of_ble_eq_true rfl)) dL_law_418 ⟨(show 60 + 20 * k + 37 * t + 3 + 0 ≤ 841393 from by omega), (show 400 + 120 * k + 162 * t + 18 + 0 ≤ 6571924 from by omega)⟩) (fun w u H locs hw hI => ?_)
      rcases hw with ⟨v8, ⟨rfl, hno⟩ | ⟨rfl, i8, j8, hi8, hx8, hj8, hy8, w3⟩, hu⟩ | ⟨i8, j8, hi8, hx8, hj8, hy8, w3, w5, hu⟩
      · exact hno.elim (fun h => absurd hx9 (h i9 hi9)) (fun h => absurd hy9 (h j9 hj9))
      · skip
        cases hu
        have hJ : zJ κ (zup g pm 12 (.int 2)) z0 px pm rq co sp aC aT t := hJ.upM (by decide)
        have hI : zI D tc (zA [] [] s.heap.size) s.heap [] L κ (zup g pm 12 (.int 2)) H locs := hI
        generalize (zup g pm 12 (.int 2)) = g3 at hI hJ
        refine lv_istore (lv' := [(7, .int w), (6, .int 2), (0, .ref b), (1, .ref px), (2, .ref pm), (3, .ref po), (4, .ref pd), (5, .int (nI (4 * k)))]) hx hb dL_law_421 hl (by decide) rfl (fun ls hl => ?_)
        refine lv_goto (tgt := 1392) hx hb dL_law_423 (by decide) ?_
        have hl := lv_sub hl [2, 3, 4, 5, 6, 7] (l' := [(0, .ref b), (1, .ref px), (2, .ref pm), (3, .ref po), (4, .ref pd), (5, .int (nI (4 * k)))]) rfl
        refine W.widen (k := 60 + 20 * (k + 1) + 37 * t) (n := 400 + 120 * (k + 1) + 162 * t) (by omega) (by omega) ?_
        refine W.base ?_
        exact hN s.drawn L κ g3 _ _ _ _ (Drawn.sameBut.refl _ _) hJ hko hkd hI hl
      · have e8 : i8 = i9 := (nI_eq (by omega) (by omega)).mp (hx8.symm.trans hx9)
        rw [e8] at w3
        exact absurd ((Value.int.inj (w3.symm.trans ((hps (1, 1) (by decide)).symm.trans q4))).trans hy8) w5

set_option maxHeartbeats 4000000 in
set_option maxRecDepth 100000 in
theorem k_governor (l : Launch) (hnt : l.stackTraces = false) {p : Program} {e : Env} {s : State} {m : MethodId} {below : List Frame} {meth : Method} {c : Code} {H : Heap} {locs : List Loc} {Q : State → Prop} {D : va_G} {tc : Nat → ClassId} {z0 b N : Nat} {xs : Nat → Int32} {px pm po pd rq co sp aC aT t k : Nat} {L : List Nat} {κ : Nat → Nat} {g : Nat → Nat → Value} {ls : Array Slot} (C : lwC p s m meth c b N xs D tc z0) (hk : 4 * k + 4 ≤ N) (hN8 : N ≤ 2048) (hJ : zJ κ g z0 px pm rq co sp aC aT t) (hko : κ po = 29) (hkd : κ pd = 30) (hI : zI D tc (zA [] [] s.heap.size) s.heap [] L κ g H locs) (hl : lv_has ls 9 [(0, .ref b), (1, .ref px), (2, .ref pm), (3, .ref po), (4, .ref pd), (5, .int (nI (4 * k)))]) (hN : lwN p l e s m below meth c b D tc z0 px pm po pd rq co sp aC aT k Q) : W p l e room_1 s m #[Value.ref b] below meth c H locs (60 + 20 * k + 37 * t) (400 + 120 * k + 162 * t) Q (F0 m 426 ls []) := by
  obtain ⟨hx, hb, hml, hown, hts, hK, hE, hX, hbl⟩ := C
  have hbA : ¬ zA [] [] s.heap.size b := fun q => by rcases q with q | q | q; exact absurd q List.not_mem_nil; exact absurd q List.not_mem_nil; exact absurd hbl (Nat.not_lt.mpr q)
  have htb9 : t ≤ 9999 := hJ.1.2.2.1.2
  refine lv_aload_n hx hb dL_law_426 rfl (lv_at hl 1 rfl) ?_
  refine lv_aload_n hx hb dL_law_427 rfl (lv_at hl 0 rfl) ?_
  refine lv_iload hx hb dL_law_428 (lv_at hl 5 rfl) ?_
  refine lv_iconst (v := 1) hx hb dL_law_430 (by decide) ?_
  refine lv_iadd hx hb dL_law_431 ?_
  rw [show nI (4 * k) + 1 = nI (4 * k + 1) from nI_add _ _]
  refine va_sld hx hb hX hbl hbA hI.2.1 (vp_in_nI (show 4 * k + 1 < N from by omega) (by omega)) dL_law_432 ?_
  refine lv_aload_n hx hb dL_law_433 rfl (lv_at hl 0 rfl) ?_
  refine lv_iload hx hb dL_law_434 (lv_at hl 5 rfl) ?_
  refine lv_iconst (v := 2) hx hb dL_law_436 (by decide) ?_
  refine lv_iadd hx hb dL_law_437 ?_
  rw [show nI (4 * k) + 2 = nI (4 * k + 2) from nI_add _ _]
  refine va_sld hx hb hX hbl hbA hI.2.1 (vp_in_nI (show 4 * k + 2 < N from by omega) (by omega)) dL_law_438 ?_
  refine lv_i2c hx hb dL_law_439 rfl ?_
  refine lv_aload_n hx hb dL_law_440 rfl (lv_at hl 0 rfl) ?_
  refine lv_iload hx hb dL_law_441 (lv_at hl 5 rfl) ?_
  refine lv_iconst (v := 3) hx hb dL_law_443 (by decide) ?_
  refine lv_iadd hx hb dL_law_444 ?_
  rw [show nI (4 * k) + 3 = nI (4 * k + 3) from nI_add _ _]
  refine va_sld hx hb hX hbl hbA hI.2.1 (vp_in_nI (show 4 * k + 3 < N from by omega) (by omega)) dL_law_445 ?_
  refine lv_aload_n hx hb dL_law_446 rfl (lv_at hl 3 rfl) ?_
  obtain ⟨⟨⟨hkx, hkm, hkq, hkO, hkS, hkC, hkT⟩, ⟨hR, hO, hS9, hC, hT⟩, ⟨htM, htb⟩, lc, eC, nC, mC, cf, lt, eT, nT, mT, tf, hMo, hCo, hTh⟩, a0, a1, a2, a3, a4, a5, a6, a7⟩ := id hJ
  refine z_xi hI (vx_runSX (As := [.ref px, .int (xs (nI (4 * k + 1)).toNatClampNeg), .int (((xs (nI (4 * k + 2)).toNatClampNeg).toUInt32 % 65536).toInt32), .int (xs (nI (4 * k + 3)).toNatClampNeg), .ref po]) (rest := []) ⟨hx, hb, hml, hown, hts⟩ (c_L_governor l hnt D tc z0 _ κ g _ px hkx (xs (nI (4 * k + 1)).toNatClampNeg) (((xs (nI (4 * k + 2)).toNatClampNeg).toUInt32 % 65536).toInt32) (pk_fc _) (xs (nI (4 * k + 3)).toNatClampNeg) po hko aC hC) (vx_cwSW 5 hts gL_law_L_governor rfl rfl rfl (by decide +kernel) ⟨Nat.le_of_ble_eq_true rfl, Nat.le_of_ble_eq_true rfl⟩) (z_pre (Xc := []) hK hE hI [] rfl rfl) rfl rfl hl.1 rfl (lv_room (Nat.le_of_ble_eq_true rfl)) dL_law_447 ⟨(show 60 + 20 * k + 37 * t + 2 ≤ 841393 from by omega), (show 400 + 120 * k + 162 * t + 12 ≤ 6571924 from by omega)⟩) (fun E ce q9 u H locs hw hI he1 he2 he3 => hw.elim) (fun v u H locs hw hI => ?_)
  have hbC := hMo.bC
  have hbT := hMo.bT
  rcases hw with ⟨rfl, r1, u1, v9, hp, hv9, hu⟩ | ⟨rfl, hp⟩ | ⟨rfl, hp⟩
  · obtain ⟨a, hka, q1, q2, q4, qb, hp⟩ := hp
    cases hp
    cases hu
    obtain ⟨i9, hi9, hx9⟩ : ∃ i9, i9 < nC ∧ ((xs (nI (4 * k + 1)).toNatClampNeg)) = nI i9 := (hCo.has hMo.bC (by decide)).mp ⟨q1, _, q2⟩
    rw [hx9] at q2
    obtain ⟨hia, -, hkc, hps⟩ := hCo.nth hMo.bC (by decide) hi9 q2
    have hM1 : zMo κ (zup (zup g a 3 (.int ((((xs (nI (4 * k + 2)).toNatClampNeg).toUInt32 % 65536).toInt32)))) po 0 (.long v9)) z0 pm lc eC nC mC cf lt eT nT mT tf := (hMo.upO hka (by decide)).upO hko (by decide)
    have hI : zI D tc (zA [] [] s.heap.size) s.heap [] L κ (zup (zup g a 3 (.int ((((xs (nI (4 * k + 2)).toNatClampNeg).toUInt32 % 65536).toInt32)))) po 0 (.long v9)) H locs := hI
    obtain ⟨g1, hg1⟩ : ∃ x, x = (zup (zup g a 3 (.int ((((xs (nI (4 * k + 2)).toNatClampNeg).toUInt32 % 65536).toInt32)))) po 0 (.long v9)) := ⟨_, rfl⟩
    rw [← hg1] at hI hM1
    refine lv_istore (lv' := [(6, .int 0), (0, .ref b), (1, .ref px), (2, .ref pm), (3, .ref po), (4, .ref pd), (5, .int (nI (4 * k)))]) hx hb dL_law_450 hl (by decide) rfl (fun ls hl => ?_)
    refine lv_aload_n hx hb dL_law_452 rfl (lv_at hl 3 rfl) ?_
    refine lv_aload_n hx hb dL_law_453 rfl (lv_at hl 1 rfl) ?_
    refine lv_iload hx hb dL_law_454 (lv_at hl 6 rfl) ?_
    refine lv_iconst (v := 1) hx hb dL_law_456 (by decide) ?_
    refine lv_iadd hx hb dL_law_457 ?_
    rw [show nI (4 * k) + 1 = nI (4 * k + 1) from nI_add _ _]
    refine va_sld hx hb hX hbl hbA hI.2.1 (vp_in_nI (show 4 * k + 1 < N from by omega) (by omega)) dL_law_458 ?_
    refine lv_aload_n hx hb dL_law_459 rfl (lv_at hl 1 rfl) ?_
    refine lv_iload hx hb dL_law_460 (lv_at hl 6 rfl) ?_
    refine lv_iconst (v := 2) hx hb dL_law_462 (by decide) ?_
    refine lv_iadd hx hb dL_law_463 ?_
    rw [show nI (4 * k) + 2 = nI (4 * k + 2) from nI_add _ _]
    refine va_sld hx hb hX hbl hbA hI.2.1 (vp_in_nI (show 4 * k + 2 < N from by omega) (by omega)) dL_law_464 ?_
    refine lv_i2c hx hb dL_law_465 rfl ?_
    refine lv_aload_n hx hb dL_law_466 rfl (lv_at hl 1 rfl) ?_
    refine lv_iload hx hb dL_law_467 (lv_at hl 6 rfl) ?_
    refine lv_iconst (v := 3) hx hb dL_law_469 (by decide) ?_
    refine lv_iadd hx hb dL_law_470 ?_
    rw [show nI (4 * k) + 3 = nI (4 * k + 3) from nI_add _ _]
    refine va_sld hx hb hX hbl hbA hI.2.1 (vp_in_nI (show 4 * k + 3 < N from by omega) (by omega)) dL_law_471 ?_
    refine z_ci hI (va_runV (As := [.int (xs (nI (4 * k + 1)).toNatClampNeg), .int (((xs (nI (4 * k + 2)).toNatClampNeg).toUInt32 % 65536).toInt32), .int (xs (nI (4 * k + 3)).toNatClampNeg)]) (rest := []) ⟨hx, hb, hml, hown, hts⟩ (c_X11_governor l D tc z0 _ κ g1 _ pm hkm (xs (nI (4 * k + 1)).toNatClampNeg) (((xs (nI (4 * k + 2)).toNatClampNeg).toUInt32 % 65536).toInt32) (pk_fc _) (xs (nI (4 * k + 3)).toNatClampNeg) lc eC nC mC cf lt eT nT mT tf hM1) (cwV 3 hts gL_law_X11_governor rfl rfl rfl (by decide +kernel) ⟨Nat.le_of_ble_eq_true rfl, Nat.le_of_ble_eq_true rfl⟩) (z_preV (Xc := []) hK hE hI [] rfl rfl (z_recv hK hI hkm rfl rfl)) rfl rfl hl.1 rfl (lv_room (Nat.le_of_ble_eq_true rfl)) dL_law_472 ⟨(show 60 + 20 * k + 37 * t + 2 + 0 ≤ 841393 from by omega), (show 400 + 120 * k + 162 * t + 12 + 0 ≤ 6571924 from by omega)⟩) (fun w u H locs hw hI => ?_)
    rcases hw with ⟨v8, ⟨rfl, hno⟩ | ⟨rfl, hex, hng⟩, hu⟩ | ⟨i8, hi8, hx8, w3, w5, hu⟩
    · exact absurd hx9 (hno i9 hi9)
    · exact absurd qb hng
    · have e8 : i8 = i9 := (nI_eq (by omega) (by omega)).mp (hx8.symm.trans hx9)
      rw [e8] at w3 hu
      cases hu
      have hgc : g1 (cf i9) 3 = g (cf i9) 3 := by rw [hg1]; exact (zup_a (z_apart hkc hko (by decide))).trans (zup_a (z_apart hkc hka (by decide)))
      have hrw : r1 = w := Value.int.inj (q4.symm.trans ((hps (3, 3) (by decide)).trans (hgc.symm.trans w3)))
      rw [hg1] at hI
      have hJ : zJ κ (zup (zup (zup (zup g a 3 (.int ((((xs (nI (4 * k + 2)).toNatClampNeg).toUInt32 % 65536).toInt32)))) po 0 (.long v9)) pm 12 (.int 0)) (cf i9) 3 (.int ((((xs (nI (4 * k + 2)).toNatClampNeg).toUInt32 % 65536).toInt32)))) z0 px pm rq co sp aC aT t := zJ.setC hJ hMo hCo hTh hi9 hia hka hkc hko (by decide)
      have hI : zI D tc (zA [] [] s.heap.size) s.heap [] L κ (zup (zup (zup (zup g a 3 (.int ((((xs (nI (4 * k + 2)).toNatClampNeg).toUInt32 % 65536).toInt32)))) po 0 (.long v9)) pm 12 (.int 0)) (cf i9) 3 (.int ((((xs (nI (4 * k + 2)).toNatClampNeg).toUInt32 % 65536).toInt32)))) H locs := hI
      generalize (zup (zup (zup (zup g a 3 (.int ((((xs (nI (4 * k + 2)).toNatClampNeg).toUInt32 % 65536).toInt32)))) po 0 (.long v9)) pm 12 (.int 0)) (cf i9) 3 (.int ((((xs (nI (4 * k + 2)).toNatClampNeg).toUInt32 % 65536).toInt32)))) = g3 at hI hJ
      refine lv_istore (lv' := [(7, .int w), (6, .int 0), (0, .ref b), (1, .ref px), (2, .ref pm), (3, .ref po), (4, .ref pd), (5, .int (nI (4 * k)))]) hx hb dL_law_475 hl (by decide) rfl (fun ls hl => ?_)
      refine lv_goto (tgt := 1392) hx hb dL_law_477 (by decide) ?_
      have hl := lv_sub hl [2, 3, 4, 5, 6, 7] (l' := [(0, .ref b), (1, .ref px), (2, .ref pm), (3, .ref po), (4, .ref pd), (5, .int (nI (4 * k)))]) rfl
      refine W.widen (k := 60 + 20 * (k + 1) + 37 * t) (n := 400 + 120 * (k + 1) + 162 * t) (by omega) (by omega) ?_
      refine W.base ?_
      exact hN s.drawn L κ g3 _ _ _ _ (Drawn.sameBut.refl _ _) hJ hko hkd hI hl
  · rcases hp with ⟨⟨_, q1⟩ | ⟨q0, _⟩, hp⟩
    · cases hp
      refine lv_istore (lv' := [(6, .int 1), (0, .ref b), (1, .ref px), (2, .ref pm), (3, .ref po), (4, .ref pd), (5, .int (nI (4 * k)))]) hx hb dL_law_450 hl (by decide) rfl (fun ls hl => ?_)
      refine lv_aload_n hx hb dL_law_452 rfl (lv_at hl 3 rfl) ?_
      refine lv_aload_n hx hb dL_law_453 rfl (lv_at hl 1 rfl) ?_
      refine lv_iload hx hb dL_law_454 (lv_at hl 6 rfl) ?_
      refine lv_iconst (v := 1) hx hb dL_law_456 (by decide) ?_
      refine lv_iadd hx hb dL_law_457 ?_
      rw [show nI (4 * k) + 1 = nI (4 * k + 1) from nI_add _ _]
      refine va_sld hx hb hX hbl hbA hI.2.1 (vp_in_nI (show 4 * k + 1 < N from by omega) (by omega)) dL_law_458 ?_
      refine lv_aload_n hx hb dL_law_459 rfl (lv_at hl 1 rfl) ?_
      refine lv_iload hx hb dL_law_460 (lv_at hl 6 rfl) ?_
      refine lv_iconst (v := 2) hx hb dL_law_462 (by decide) ?_
      refine lv_iadd hx hb dL_law_463 ?_
      rw [show nI (4 * k) + 2 = nI (4 * k + 2) from nI_add _ _]
      refine va_sld hx hb hX hbl hbA hI.2.1 (vp_in_nI (show 4 * k + 2 < N from by omega) (by omega)) dL_law_464 ?_
      refine lv_i2c hx hb dL_law_465 rfl ?_
      refine lv_aload_n hx hb dL_law_466 rfl (lv_at hl 1 rfl) ?_
      refine lv_iload hx hb dL_law_467 (lv_at hl 6 rfl) ?_
      refine lv_iconst (v := 3) hx hb dL_law_469 (by decide) ?_
      refine lv_iadd hx hb dL_law_470 ?_
      rw [show nI (4 * k) + 3 = nI (4 * k + 3) from nI_add _ _]
      refine va_sld hx hb hX hbl hbA hI.2.1 (vp_in_nI (show 4 * k + 3 < N from by omega) (by omega)) dL_law_471 ?_
      refine z_ci hI (va_runV (As := [.int (xs (nI (4 * k + 1)).toNatClampNeg), .int (((xs (nI (4 * k + 2)).toNatClampNeg).toUInt32 % 65536).toInt32), .int (xs (nI (4 * k + 3)).toNatClampNeg)]) (rest := []) ⟨hx, hb, hml, hown, hts⟩ (c_X11_governor l D tc z0 _ κ g _ pm hkm (xs (nI (4 * k + 1)).toNatClampNeg) (((xs (nI (4 * k + 2)).toNatClampNeg).toUInt32 % 65536).toInt32) (pk_fc _) (xs (nI (4 * k + 3)).toNatClampNeg) lc eC nC mC cf lt eT nT mT tf hMo) (cwV 3 hts gL_law_X11_governor rfl rfl rfl (by decide +kernel) ⟨Nat.le_of_ble_eq_true rfl, Nat.le_of_ble_eq_true rfl⟩) (z_preV (Xc := []) hK hE hI [] rfl rfl (z_recv hK hI hkm rfl rfl)) rfl rfl hl.1 rfl (lv_room (Nat.le_of_ble_eq_true rfl)) dL_law_472 ⟨(show 60 + 20 * k + 37 * t + 2 + 0 ≤ 841393 from by omega), (show 400 + 120 * k + 162 * t + 12 + 0 ≤ 6571924 from by omega)⟩) (fun w u H locs hw hI => ?_)
      rcases hw with ⟨v8, ⟨rfl, hno⟩ | ⟨rfl, hex, hng⟩, hu⟩ | ⟨i8, hi8, hx8, w3, w5, hu⟩
      · skip
        cases hu
        have hJ : zJ κ (zup g pm 12 (.int 1)) z0 px pm rq co sp aC aT t := hJ.upM (by decide)
        have hI : zI D tc (zA [] [] s.heap.size) s.heap [] L κ (zup g pm 12 (.int 1)) H locs := hI
        generalize (zup g pm 12 (.int 1)) = g3 at hI hJ
        refine lv_istore (lv' := [(7, .int w), (6, .int 1), (0, .ref b), (1, .ref px), (2, .ref pm), (3, .ref po), (4, .ref pd), (5, .int (nI (4 * k)))]) hx hb dL_law_475 hl (by decide) rfl (fun ls hl => ?_)
        refine lv_goto (tgt := 1392) hx hb dL_law_477 (by decide) ?_
        have hl := lv_sub hl [2, 3, 4, 5, 6, 7] (l' := [(0, .ref b), (1, .ref px), (2, .ref pm), (3, .ref po), (4, .ref pd), (5, .int (nI (4 * k)))]) rfl
        refine W.widen (k := 60 + 20 * (k + 1) + 37 * t) (n := 400 + 120 * (k + 1) + 162 * t) (by omega) (by omega) ?_
        refine W.base ?_
        exact hN s.drawn L κ g3 _ _ _ _ (Drawn.sameBut.refl _ _) hJ hko hkd hI hl
      · exact absurd ((hCo.has hMo.bC (by decide)).mpr hex) q1
      · exact absurd ((hCo.has hMo.bC (by decide)).mpr ⟨i8, hi8, hx8⟩) q1
    · exact absurd q0 (by decide)
  · rcases hp with ⟨⟨q0, _⟩ | ⟨_, q1, q3⟩, hp⟩
    · exact absurd q0 (by decide)
    · cases hp
      refine lv_istore (lv' := [(6, .int 2), (0, .ref b), (1, .ref px), (2, .ref pm), (3, .ref po), (4, .ref pd), (5, .int (nI (4 * k)))]) hx hb dL_law_450 hl (by decide) rfl (fun ls hl => ?_)
      refine lv_aload_n hx hb dL_law_452 rfl (lv_at hl 3 rfl) ?_
      refine lv_aload_n hx hb dL_law_453 rfl (lv_at hl 1 rfl) ?_
      refine lv_iload hx hb dL_law_454 (lv_at hl 6 rfl) ?_
      refine lv_iconst (v := 1) hx hb dL_law_456 (by decide) ?_
      refine lv_iadd hx hb dL_law_457 ?_
      rw [show nI (4 * k) + 1 = nI (4 * k + 1) from nI_add _ _]
      refine va_sld hx hb hX hbl hbA hI.2.1 (vp_in_nI (show 4 * k + 1 < N from by omega) (by omega)) dL_law_458 ?_
      refine lv_aload_n hx hb dL_law_459 rfl (lv_at hl 1 rfl) ?_
      refine lv_iload hx hb dL_law_460 (lv_at hl 6 rfl) ?_
      refine lv_iconst (v := 2) hx hb dL_law_462 (by decide) ?_
      refine lv_iadd hx hb dL_law_463 ?_
      rw [show nI (4 * k) + 2 = nI (4 * k + 2) from nI_add _ _]
      refine va_sld hx hb hX hbl hbA hI.2.1 (vp_in_nI (show 4 * k + 2 < N from by omega) (by omega)) dL_law_464 ?_
      refine lv_i2c hx hb dL_law_465 rfl ?_
      refine lv_aload_n hx hb dL_law_466 rfl (lv_at hl 1 rfl) ?_
      refine lv_iload hx hb dL_law_467 (lv_at hl 6 rfl) ?_
      refine lv_iconst (v := 3) hx hb dL_law_469 (by decide) ?_
      refine lv_iadd hx hb dL_law_470 ?_
      rw [show nI (4 * k) + 3 = nI (4 * k + 3) from nI_add _ _]
      refine va_sld hx hb hX hbl hbA hI.2.1 (vp_in_nI (show 4 * k + 3 < N from by omega) (by omega)) dL_law_471 ?_
      refine z_ci hI (va_runV (As := [.int (xs (nI (4 * k + 1)).toNatClampNeg), .int (((xs (nI (4 * k + 2)).toNatClampNeg).toUInt32 % 65536).toInt32), .int (xs (nI (4 * k + 3)).toNatClampNeg)]) (rest := []) ⟨hx, hb, hml, hown, hts⟩ (c_X11_governor l D tc z0 _ κ g _ pm hkm (xs (nI (4 * k + 1)).toNatClampNeg) (((xs (nI (4 * k + 2)).toNatClampNeg).toUInt32 % 65536).toInt32) (pk_fc _) (xs (nI (4 * k + 3)).toNatClampNeg) lc eC nC mC cf lt eT nT mT tf hMo) (cwV 3 hts gL_law_X11_governor rfl rfl rfl (by decide +kernel) ⟨Nat.le_of_ble_eq_true rfl, Nat.le_of_ble_eq_true rfl⟩) (z_preV (Xc := []) hK hE hI [] rfl rfl (z_recv hK hI hkm rfl rfl)) rfl rfl hl.1 rfl (lv_room (Nat.le_of_ble_eq_true rfl)) dL_law_472 ⟨(show 60 + 20 * k + 37 * t + 2 + 0 ≤ 841393 from by omega), (show 400 + 120 * k + 162 * t + 12 + 0 ≤ 6571924 from by omega)⟩) (fun w u H locs hw hI => ?_)
      rcases hw with ⟨v8, ⟨rfl, hno⟩ | ⟨rfl, hex, hng⟩, hu⟩ | ⟨i8, hi8, hx8, w3, w5, hu⟩
      · obtain ⟨i7, hi7, hx7⟩ := (hCo.has hMo.bC (by decide)).mp q1
        exact absurd hx7 (hno i7 hi7)
      · skip
        cases hu
        have hJ : zJ κ (zup g pm 12 (.int 2)) z0 px pm rq co sp aC aT t := hJ.upM (by decide)
        have hI : zI D tc (zA [] [] s.heap.size) s.heap [] L κ (zup g pm 12 (.int 2)) H locs := hI
        generalize (zup g pm 12 (.int 2)) = g3 at hI hJ
        refine lv_istore (lv' := [(7, .int w), (6, .int 2), (0, .ref b), (1, .ref px), (2, .ref pm), (3, .ref po), (4, .ref pd), (5, .int (nI (4 * k)))]) hx hb dL_law_475 hl (by decide) rfl (fun ls hl => ?_)
        refine lv_goto (tgt := 1392) hx hb dL_law_477 (by decide) ?_
        have hl := lv_sub hl [2, 3, 4, 5, 6, 7] (l' := [(0, .ref b), (1, .ref px), (2, .ref pm), (3, .ref po), (4, .ref pd), (5, .int (nI (4 * k)))]) rfl
        refine W.widen (k := 60 + 20 * (k + 1) + 37 * t) (n := 400 + 120 * (k + 1) + 162 * t) (by omega) (by omega) ?_
        refine W.base ?_
        exact hN s.drawn L κ g3 _ _ _ _ (Drawn.sameBut.refl _ _) hJ hko hkd hI hl
      · exact absurd w5 q3

set_option maxHeartbeats 4000000 in
set_option maxRecDepth 100000 in
theorem k_work (l : Launch) (hnt : l.stackTraces = false) {p : Program} {e : Env} {s : State} {m : MethodId} {below : List Frame} {meth : Method} {c : Code} {H : Heap} {locs : List Loc} {Q : State → Prop} {D : va_G} {tc : Nat → ClassId} {z0 b N : Nat} {xs : Nat → Int32} {px pm po pd rq co sp aC aT t k : Nat} {L : List Nat} {κ : Nat → Nat} {g : Nat → Nat → Value} {ls : Array Slot} (C : lwC p s m meth c b N xs D tc z0) (hk : 4 * k + 4 ≤ N) (hN8 : N ≤ 2048) (hJ : zJ κ g z0 px pm rq co sp aC aT t) (hko : κ po = 29) (hkd : κ pd = 30) (hI : zI D tc (zA [] [] s.heap.size) s.heap [] L κ g H locs) (hl : lv_has ls 9 [(0, .ref b), (1, .ref px), (2, .ref pm), (3, .ref po), (4, .ref pd), (5, .int (nI (4 * k)))]) (hN : lwN p l e s m below meth c b D tc z0 px pm po pd rq co sp aC aT k Q) : W p l e room_1 s m #[Value.ref b] below meth c H locs (60 + 20 * k + 37 * t) (400 + 120 * k + 162 * t) Q (F0 m 480 ls []) := by
  obtain ⟨hx, hb, hml, hown, hts, hK, hE, hX, hbl⟩ := C
  have hbA : ¬ zA [] [] s.heap.size b := fun q => by rcases q with q | q | q; exact absurd q List.not_mem_nil; exact absurd q List.not_mem_nil; exact absurd hbl (Nat.not_lt.mpr q)
  have htb9 : t ≤ 9999 := hJ.1.2.2.1.2
  refine lv_aload_n hx hb dL_law_480 rfl (lv_at hl 1 rfl) ?_
  refine lv_aload_n hx hb dL_law_481 rfl (lv_at hl 0 rfl) ?_
  refine lv_iload hx hb dL_law_482 (lv_at hl 5 rfl) ?_
  refine lv_iconst (v := 1) hx hb dL_law_484 (by decide) ?_
  refine lv_iadd hx hb dL_law_485 ?_
  rw [show nI (4 * k) + 1 = nI (4 * k + 1) from nI_add _ _]
  refine va_sld hx hb hX hbl hbA hI.2.1 (vp_in_nI (show 4 * k + 1 < N from by omega) (by omega)) dL_law_486 ?_
  refine lv_aload_n hx hb dL_law_487 rfl (lv_at hl 3 rfl) ?_
  obtain ⟨⟨⟨hkx, hkm, hkq, hkO, hkS, hkC, hkT⟩, ⟨hR, hO, hS9, hC, hT⟩, ⟨htM, htb⟩, lc, eC, nC, mC, cf, lt, eT, nT, mT, tf, hMo, hCo, hTh⟩, a0, a1, a2, a3, a4, a5, a6, a7⟩ := id hJ
  refine z_xi hI (vx_runSX (As := [.ref px, .int (xs (nI (4 * k + 1)).toNatClampNeg), .ref po]) (rest := []) ⟨hx, hb, hml, hown, hts⟩ (c_L_work l hnt D tc z0 _ κ g _ px hkx (xs (nI (4 * k + 1)).toNatClampNeg) po hko aT hT) (vx_cwSW 3 hts gL_law_L_work rfl rfl rfl (by decide +kernel) ⟨Nat.le_of_ble_eq_true rfl, Nat.le_of_ble_eq_true rfl⟩) (z_pre (Xc := []) hK hE hI [] rfl rfl) rfl rfl hl.1 rfl (lv_room (Nat.le_of_ble_eq_true rfl)) dL_law_488 ⟨(show 60 + 20 * k + 37 * t + 1 ≤ 841393 from by omega), (show 400 + 120 * k + 162 * t + 6 ≤ 6571924 from by omega)⟩) (fun E ce q9 u H locs hw hI he1 he2 he3 => hw.elim) (fun v u H locs hw hI => ?_)
  obtain ⟨L1, κ1, g1⟩ := u
  have hI : zI D tc (zA [] [] s.heap.size) s.heap [] L1 κ1 g1 H locs := hI
  have hJ : zJ κ1 g1 z0 px pm rq co sp aC aT t ∧ κ1 po = 29 ∧ κ1 pd = 30 := by
    rcases hw with ⟨_, r1, u1, v9, hp, hv9, hu⟩ | ⟨_, hp⟩
    · cases hu
      obtain ⟨_, hp⟩ := hp
      cases hp
      exact ⟨hJ.up hko (by decide), hko, hkd⟩
    · obtain ⟨_, hp⟩ := hp
      cases hp
      exact ⟨hJ, hko, hkd⟩
  obtain ⟨hJ, hko, hkd⟩ := hJ
  clear hw
  obtain ⟨L, rfl⟩ : ∃ x, x = L1 := ⟨_, rfl⟩
  obtain ⟨κ, rfl⟩ : ∃ x, x = κ1 := ⟨_, rfl⟩
  obtain ⟨g, rfl⟩ : ∃ x, x = g1 := ⟨_, rfl⟩
  refine lv_istore (lv' := [(6, .int v), (0, .ref b), (1, .ref px), (2, .ref pm), (3, .ref po), (4, .ref pd), (5, .int (nI (4 * k)))]) hx hb dL_law_491 hl (by decide) rfl (fun ls hl => ?_)
  refine lv_aload_n hx hb dL_law_493 rfl (lv_at hl 3 rfl) ?_
  refine lv_aload_n hx hb dL_law_494 rfl (lv_at hl 1 rfl) ?_
  refine lv_iload hx hb dL_law_495 (lv_at hl 6 rfl) ?_
  refine lv_iconst (v := 1) hx hb dL_law_497 (by decide) ?_
  refine lv_iadd hx hb dL_law_498 ?_
  rw [show nI (4 * k) + 1 = nI (4 * k + 1) from nI_add _ _]
  refine va_sld hx hb hX hbl hbA hI.2.1 (vp_in_nI (show 4 * k + 1 < N from by omega) (by omega)) dL_law_499 ?_
  obtain ⟨⟨⟨hkx, hkm, hkq, hkO, hkS, hkC, hkT⟩, ⟨hR, hO, hS9, hC, hT⟩, ⟨htM, htb⟩, lc, eC, nC, mC, cf, lt, eT, nT, mT, tf, hMo, hCo, hTh⟩, a0, a1, a2, a3, a4, a5, a6, a7⟩ := id hJ
  refine z_ci hI (va_runV (As := [.int (xs (nI (4 * k + 1)).toNatClampNeg)]) (rest := []) ⟨hx, hb, hml, hown, hts⟩ (c_X11_work l D tc z0 _ κ g _ pm hkm (xs (nI (4 * k + 1)).toNatClampNeg) lc eC nC mC cf lt eT nT mT tf hMo ) (cwV 1 hts gL_law_X11_work rfl rfl rfl (by decide +kernel) ⟨Nat.le_of_ble_eq_true rfl, Nat.le_of_ble_eq_true rfl⟩) (z_preV (Xc := []) hK hE hI [] rfl rfl (z_recv hK hI hkm rfl rfl)) rfl rfl hl.1 rfl (lv_room (Nat.le_of_ble_eq_true rfl)) dL_law_500 ⟨(show 60 + 20 * k + 37 * t + 1 + 0 ≤ 841393 from by omega), (show 400 + 120 * k + 162 * t + 6 + 0 ≤ 6571924 from by omega)⟩) (fun w u H locs hw hI => ?_)
  obtain ⟨x9, rfl⟩ := hw
  have hJ := hJ.upM (j := 12) (v := .int x9) (by decide)
  have hI : zI D tc (zA [] [] s.heap.size) s.heap [] L κ (zup g pm 12 (.int x9)) H locs := hI
  generalize (zup g pm 12 (.int x9)) = g at hI hJ
  refine lv_istore (lv' := [(7, .int w), (6, .int v), (0, .ref b), (1, .ref px), (2, .ref pm), (3, .ref po), (4, .ref pd), (5, .int (nI (4 * k)))]) hx hb dL_law_503 hl (by decide) rfl (fun ls hl => ?_)
  refine lv_goto (tgt := 1392) hx hb dL_law_505 (by decide) ?_
  have hl := lv_sub hl [2, 3, 4, 5, 6, 7] (l' := [(0, .ref b), (1, .ref px), (2, .ref pm), (3, .ref po), (4, .ref pd), (5, .int (nI (4 * k)))]) rfl
  refine W.widen (k := 60 + 20 * (k + 1) + 37 * t) (n := 400 + 120 * (k + 1) + 162 * t) (by omega) (by omega) ?_
  refine W.base ?_
  exact hN s.drawn L κ g _ _ _ _ (Drawn.sameBut.refl _ _) hJ hko hkd hI hl

set_option maxHeartbeats 4000000 in
set_option maxRecDepth 100000 in
theorem k_isCold (l : Launch) (hnt : l.stackTraces = false) {p : Program} {e : Env} {s : State} {m : MethodId} {below : List Frame} {meth : Method} {c : Code} {H : Heap} {locs : List Loc} {Q : State → Prop} {D : va_G} {tc : Nat → ClassId} {z0 b N : Nat} {xs : Nat → Int32} {px pm po pd rq co sp aC aT t k : Nat} {L : List Nat} {κ : Nat → Nat} {g : Nat → Nat → Value} {ls : Array Slot} (C : lwC p s m meth c b N xs D tc z0) (hk : 4 * k + 4 ≤ N) (hN8 : N ≤ 2048) (hJ : zJ κ g z0 px pm rq co sp aC aT t) (hko : κ po = 29) (hkd : κ pd = 30) (hI : zI D tc (zA [] [] s.heap.size) s.heap [] L κ g H locs) (hl : lv_has ls 9 [(0, .ref b), (1, .ref px), (2, .ref pm), (3, .ref po), (4, .ref pd), (5, .int (nI (4 * k)))]) (hN : lwN p l e s m below meth c b D tc z0 px pm po pd rq co sp aC aT k Q) : W p l e room_1 s m #[Value.ref b] below meth c H locs (60 + 20 * k + 37 * t) (400 + 120 * k + 162 * t) Q (F0 m 508 ls []) := by
  obtain ⟨hx, hb, hml, hown, hts, hK, hE, hX, hbl⟩ := C
  have hbA : ¬ zA [] [] s.heap.size b := fun q => by rcases q with q | q | q; exact absurd q List.not_mem_nil; exact absurd q List.not_mem_nil; exact absurd hbl (Nat.not_lt.mpr q)
  have htb9 : t ≤ 9999 := hJ.1.2.2.1.2
  refine lv_aload_n hx hb dL_law_508 rfl (lv_at hl 1 rfl) ?_
  refine lv_aload_n hx hb dL_law_509 rfl (lv_at hl 0 rfl) ?_
  refine lv_iload hx hb dL_law_510 (lv_at hl 5 rfl) ?_
  refine lv_iconst (v := 1) hx hb dL_law_512 (by decide) ?_
  refine lv_iadd hx hb dL_law_513 ?_
  rw [show nI (4 * k) + 1 = nI (4 * k + 1) from nI_add _ _]
  refine va_sld hx hb hX hbl hbA hI.2.1 (vp_in_nI (show 4 * k + 1 < N from by omega) (by omega)) dL_law_514 ?_
  refine lv_aload_n hx hb dL_law_515 rfl (lv_at hl 3 rfl) ?_
  obtain ⟨⟨⟨hkx, hkm, hkq, hkO, hkS, hkC, hkT⟩, ⟨hR, hO, hS9, hC, hT⟩, ⟨htM, htb⟩, lc, eC, nC, mC, cf, lt, eT, nT, mT, tf, hMo, hCo, hTh⟩, a0, a1, a2, a3, a4, a5, a6, a7⟩ := id hJ
  refine z_xi hI (vx_runSX (As := [.ref px, .int (xs (nI (4 * k + 1)).toNatClampNeg), .ref po]) (rest := []) ⟨hx, hb, hml, hown, hts⟩ (c_L_isCold l hnt D tc z0 _ κ g _ px hkx (xs (nI (4 * k + 1)).toNatClampNeg) po hko aT hT) (vx_cwSW 3 hts gL_law_L_isCold rfl rfl rfl (by decide +kernel) ⟨Nat.le_of_ble_eq_true rfl, Nat.le_of_ble_eq_true rfl⟩) (z_pre (Xc := []) hK hE hI [] rfl rfl) rfl rfl hl.1 rfl (lv_room (Nat.le_of_ble_eq_true rfl)) dL_law_516 ⟨(show 60 + 20 * k + 37 * t + 1 ≤ 841393 from by omega), (show 400 + 120 * k + 162 * t + 6 ≤ 6571924 from by omega)⟩) (fun E ce q9 u H locs hw hI he1 he2 he3 => hw.elim) (fun v u H locs hw hI => ?_)
  obtain ⟨L1, κ1, g1⟩ := u
  have hI : zI D tc (zA [] [] s.heap.size) s.heap [] L1 κ1 g1 H locs := hI
  have hJ : zJ κ1 g1 z0 px pm rq co sp aC aT t ∧ κ1 po = 29 ∧ κ1 pd = 30 := by
    rcases hw with ⟨_, r1, u1, v9, hp, hv9, hu⟩ | ⟨_, hp⟩
    · cases hu
      obtain ⟨_, hp⟩ := hp
      cases hp
      exact ⟨hJ.up hko (by decide), hko, hkd⟩
    · obtain ⟨_, hp⟩ := hp
      cases hp
      exact ⟨hJ, hko, hkd⟩
  obtain ⟨hJ, hko, hkd⟩ := hJ
  clear hw
  obtain ⟨L, rfl⟩ : ∃ x, x = L1 := ⟨_, rfl⟩
  obtain ⟨κ, rfl⟩ : ∃ x, x = κ1 := ⟨_, rfl⟩
  obtain ⟨g, rfl⟩ : ∃ x, x = g1 := ⟨_, rfl⟩
  refine lv_istore (lv' := [(6, .int v), (0, .ref b), (1, .ref px), (2, .ref pm), (3, .ref po), (4, .ref pd), (5, .int (nI (4 * k)))]) hx hb dL_law_519 hl (by decide) rfl (fun ls hl => ?_)
  refine lv_aload_n hx hb dL_law_521 rfl (lv_at hl 3 rfl) ?_
  refine lv_aload_n hx hb dL_law_522 rfl (lv_at hl 1 rfl) ?_
  refine lv_iload hx hb dL_law_523 (lv_at hl 6 rfl) ?_
  refine lv_iconst (v := 1) hx hb dL_law_525 (by decide) ?_
  refine lv_iadd hx hb dL_law_526 ?_
  rw [show nI (4 * k) + 1 = nI (4 * k + 1) from nI_add _ _]
  refine va_sld hx hb hX hbl hbA hI.2.1 (vp_in_nI (show 4 * k + 1 < N from by omega) (by omega)) dL_law_527 ?_
  obtain ⟨⟨⟨hkx, hkm, hkq, hkO, hkS, hkC, hkT⟩, ⟨hR, hO, hS9, hC, hT⟩, ⟨htM, htb⟩, lc, eC, nC, mC, cf, lt, eT, nT, mT, tf, hMo, hCo, hTh⟩, a0, a1, a2, a3, a4, a5, a6, a7⟩ := id hJ
  refine z_ci hI (va_runV (As := [.int (xs (nI (4 * k + 1)).toNatClampNeg)]) (rest := []) ⟨hx, hb, hml, hown, hts⟩ (c_X11_isCold l D tc z0 _ κ g _ pm hkm (xs (nI (4 * k + 1)).toNatClampNeg) lc eC nC mC cf lt eT nT mT tf hMo ) (cwV 1 hts gL_law_X11_isCold rfl rfl rfl (by decide +kernel) ⟨Nat.le_of_ble_eq_true rfl, Nat.le_of_ble_eq_true rfl⟩) (z_preV (Xc := []) hK hE hI [] rfl rfl (z_recv hK hI hkm rfl rfl)) rfl rfl hl.1 rfl (lv_room (Nat.le_of_ble_eq_true rfl)) dL_law_528 ⟨(show 60 + 20 * k + 37 * t + 1 + 0 ≤ 841393 from by omega), (show 400 + 120 * k + 162 * t + 6 + 0 ≤ 6571924 from by omega)⟩) (fun w u H locs hw hI => ?_)
  obtain ⟨x9, rfl⟩ := hw
  have hJ := hJ.upM (j := 12) (v := .int x9) (by decide)
  have hI : zI D tc (zA [] [] s.heap.size) s.heap [] L κ (zup g pm 12 (.int x9)) H locs := hI
  generalize (zup g pm 12 (.int x9)) = g at hI hJ
  refine lv_istore (lv' := [(7, .int w), (6, .int v), (0, .ref b), (1, .ref px), (2, .ref pm), (3, .ref po), (4, .ref pd), (5, .int (nI (4 * k)))]) hx hb dL_law_531 hl (by decide) rfl (fun ls hl => ?_)
  refine lv_goto (tgt := 1392) hx hb dL_law_533 (by decide) ?_
  have hl := lv_sub hl [2, 3, 4, 5, 6, 7] (l' := [(0, .ref b), (1, .ref px), (2, .ref pm), (3, .ref po), (4, .ref pd), (5, .int (nI (4 * k)))]) rfl
  refine W.widen (k := 60 + 20 * (k + 1) + 37 * t) (n := 400 + 120 * (k + 1) + 162 * t) (by omega) (by omega) ?_
  refine W.base ?_
  exact hN s.drawn L κ g _ _ _ _ (Drawn.sameBut.refl _ _) hJ hko hkd hI hl

set_option maxHeartbeats 4000000 in
set_option maxRecDepth 100000 in
theorem k_pass (l : Launch) (hnt : l.stackTraces = false) {p : Program} {e : Env} {s : State} {m : MethodId} {below : List Frame} {meth : Method} {c : Code} {H : Heap} {locs : List Loc} {Q : State → Prop} {D : va_G} {tc : Nat → ClassId} {z0 b N : Nat} {xs : Nat → Int32} {px pm po pd rq co sp aC aT t k : Nat} {L : List Nat} {κ : Nat → Nat} {g : Nat → Nat → Value} {ls : Array Slot} (C : lwC p s m meth c b N xs D tc z0) (hk : 4 * k + 4 ≤ N) (hN8 : N ≤ 2048) (hJ : zJ κ g z0 px pm rq co sp aC aT t) (hko : κ po = 29) (hkd : κ pd = 30) (hI : zI D tc (zA [] [] s.heap.size) s.heap [] L κ g H locs) (hl : lv_has ls 9 [(0, .ref b), (1, .ref px), (2, .ref pm), (3, .ref po), (4, .ref pd), (5, .int (nI (4 * k)))]) (hN : lwN p l e s m below meth c b D tc z0 px pm po pd rq co sp aC aT k Q) : W p l e room_1 s m #[Value.ref b] below meth c H locs (60 + 20 * k + 37 * t) (400 + 120 * k + 162 * t) Q (F0 m 536 ls []) := by
  obtain ⟨hx, hb, hml, hown, hts, hK, hE, hX, hbl⟩ := C
  have hbA : ¬ zA [] [] s.heap.size b := fun q => by rcases q with q | q | q; exact absurd q List.not_mem_nil; exact absurd q List.not_mem_nil; exact absurd hbl (Nat.not_lt.mpr q)
  have htb9 : t ≤ 9999 := hJ.1.2.2.1.2
  refine lv_aload_n hx hb dL_law_536 rfl (lv_at hl 1 rfl) ?_
  refine lv_aload_n hx hb dL_law_537 rfl (lv_at hl 0 rfl) ?_
  refine lv_iload hx hb dL_law_538 (lv_at hl 5 rfl) ?_
  refine lv_iconst (v := 1) hx hb dL_law_540 (by decide) ?_
  refine lv_iadd hx hb dL_law_541 ?_
  rw [show nI (4 * k) + 1 = nI (4 * k + 1) from nI_add _ _]
  refine va_sld hx hb hX hbl hbA hI.2.1 (vp_in_nI (show 4 * k + 1 < N from by omega) (by omega)) dL_law_542 ?_
  refine lv_aload_n hx hb dL_law_543 rfl (lv_at hl 3 rfl) ?_
  obtain ⟨⟨⟨hkx, hkm, hkq, hkO, hkS, hkC, hkT⟩, ⟨hR, hO, hS9, hC, hT⟩, ⟨htM, htb⟩, lc, eC, nC, mC, cf, lt, eT, nT, mT, tf, hMo, hCo, hTh⟩, a0, a1, a2, a3, a4, a5, a6, a7⟩ := id hJ
  obtain ⟨t9, ht9⟩ := z_gi (j := 8) hI hkx rfl rfl
  obtain ⟨h9, hh9⟩ := z_gi (j := 2) hI hkq rfl rfl
  obtain ⟨w9, hw9⟩ := z_gi (j := 4) hI hkq rfl rfl
  have hne : rq ≠ px := fun q => absurd (hkq.symm.trans (q ▸ hkx)) (by decide)
  refine z_xi hI (vx_runSX (As := [.ref px, .int (xs (nI (4 * k + 1)).toNatClampNeg), .ref po]) (rest := []) ⟨hx, hb, hml, hown, hts⟩ (c_L_pass l hnt D tc z0 _ κ g _ px hkx (xs (nI (4 * k + 1)).toNatClampNeg) po hko t9 ht9 rq hR w9 hw9 h9 hh9 hne) (vx_cwSW 3 hts gL_law_L_pass rfl rfl rfl (by decide +kernel) ⟨Nat.le_of_ble_eq_true rfl, Nat.le_of_ble_eq_true rfl⟩) (z_pre (Xc := []) hK hE hI [] rfl rfl) rfl rfl hl.1 rfl (lv_room (Nat.le_of_ble_eq_true rfl)) dL_law_544 ⟨(show 60 + 20 * k + 37 * t + 1 ≤ 841393 from by omega), (show 400 + 120 * k + 162 * t + 6 ≤ 6571924 from by omega)⟩) (fun E ce q9 u H locs hw hI he1 he2 he3 => hw.elim) (fun v u H locs hw hI => ?_)
  have et : t9 = nI t := Value.int.inj (ht9.symm.trans (a5.trans htM))
  subst et
  rcases hw with ⟨_, r1, u1, v9, hp, hv9, hu⟩ | ⟨_, hp⟩ | ⟨_, hp⟩
  · obtain ⟨q1, q2, q4, g8, hp, hk8⟩ := hp
    cases hp
    cases hu
    obtain ⟨i1, hi1, he1⟩ := nI_of (x := (xs (nI (4 * k + 1)).toNatClampNeg)) (fun q => absurd (Int32.lt_of_le_of_lt q1.1 q) (by decide))
    rw [he1] at q1 q2 q4 hk8
    have h1i : 1 ≤ i1 := (nI_leI (a := 1) (by decide) hi1).mp q1.1
    have h2i : i1 ≤ 100 := (nI_leI (b := 100) hi1 (by decide)).mp q1.2
    have h3i : t + i1 ≤ 9999 := by
      rw [nI_add] at q2
      have h4 : ¬ 9999 < t + i1 := fun q => q2 (nI_lt (a := 9999) q (by omega))
      omega
    have n_px_pm : px ≠ pm := z_apart hkx hkm (by decide)
    have n_px_rq : px ≠ rq := z_apart hkx hkq (by decide)
    have n_px_co : px ≠ co := z_apart hkx hkO (by decide)
    have n_px_sp : px ≠ sp := z_apart hkx hkS (by decide)
    have n_px_po : px ≠ po := z_apart hkx hko (by decide)
    have n_pm_px : pm ≠ px := z_apart hkm hkx (by decide)
    have n_pm_rq : pm ≠ rq := z_apart hkm hkq (by decide)
    have n_pm_co : pm ≠ co := z_apart hkm hkO (by decide)
    have n_pm_sp : pm ≠ sp := z_apart hkm hkS (by decide)
    have n_pm_po : pm ≠ po := z_apart hkm hko (by decide)
    have n_rq_px : rq ≠ px := z_apart hkq hkx (by decide)
    have n_rq_pm : rq ≠ pm := z_apart hkq hkm (by decide)
    have n_rq_co : rq ≠ co := z_apart hkq hkO (by decide)
    have n_rq_sp : rq ≠ sp := z_apart hkq hkS (by decide)
    have n_rq_po : rq ≠ po := z_apart hkq hko (by decide)
    have n_co_px : co ≠ px := z_apart hkO hkx (by decide)
    have n_co_pm : co ≠ pm := z_apart hkO hkm (by decide)
    have n_co_rq : co ≠ rq := z_apart hkO hkq (by decide)
    have n_co_sp : co ≠ sp := z_apart hkO hkS (by decide)
    have n_co_po : co ≠ po := z_apart hkO hko (by decide)
    have n_sp_px : sp ≠ px := z_apart hkS hkx (by decide)
    have n_sp_pm : sp ≠ pm := z_apart hkS hkm (by decide)
    have n_sp_rq : sp ≠ rq := z_apart hkS hkq (by decide)
    have n_sp_co : sp ≠ co := z_apart hkS hkO (by decide)
    have n_sp_po : sp ≠ po := z_apart hkS hko (by decide)
    have n_po_px : po ≠ px := z_apart hko hkx (by decide)
    have n_po_pm : po ≠ pm := z_apart hko hkm (by decide)
    have n_po_rq : po ≠ rq := z_apart hko hkq (by decide)
    have n_po_co : po ≠ co := z_apart hko hkO (by decide)
    have n_po_sp : po ≠ sp := z_apart hko hkS (by decide)
    have hz : zLc κ (zup g8 po 0 (.long v9)) z0 px pm rq co sp aC aT t := (hJ.1.tkC hk8).up hko (by decide)
    have hI : zI D tc (zA [] [] s.heap.size) s.heap [] L κ (zup g8 po 0 (.long v9)) H locs := hI
    obtain ⟨g1, hg1⟩ : ∃ x, x = (zup g8 po 0 (.long v9)) := ⟨_, rfl⟩
    rw [← hg1] at hI hz
    have hgm : ∀ j, g1 pm j = g pm j := fun j => by rw [hg1, zup_a n_pm_po]; exact hk8.2.2.2 _ j (fun q => n_pm_px q.1) (fun q => n_pm_rq q.1)
    refine lv_istore (lv' := [(6, .int v), (0, .ref b), (1, .ref px), (2, .ref pm), (3, .ref po), (4, .ref pd), (5, .int (nI (4 * k)))]) hx hb dL_law_547 hl (by decide) rfl (fun ls hl => ?_)
    refine lv_aload_n hx hb dL_law_549 rfl (lv_at hl 3 rfl) ?_
    refine lv_aload_n hx hb dL_law_550 rfl (lv_at hl 1 rfl) ?_
    refine lv_iload hx hb dL_law_551 (lv_at hl 6 rfl) ?_
    refine lv_iconst (v := 1) hx hb dL_law_553 (by decide) ?_
    refine lv_iadd hx hb dL_law_554 ?_
    rw [show nI (4 * k) + 1 = nI (4 * k + 1) from nI_add _ _]
    refine va_sld hx hb hX hbl hbA hI.2.1 (vp_in_nI (show 4 * k + 1 < N from by omega) (by omega)) dL_law_555 ?_
    obtain ⟨⟨hkx, hkm, hkq, hkO, hkS, hkC, hkT⟩, ⟨hR, hO, hS9, hC, hT⟩, ⟨htM, htb⟩, lc, eC, nC, mC, cf, lt, eT, nT, mT, tf, hMo, hCo, hTh⟩ := id hz
    rw [he1]
    refine z_ci hI (va_runV (As := [.int (nI i1)]) (rest := []) ⟨hx, hb, hml, hown, hts⟩ (c_X11_pass l D tc z0 _ κ g1 _ pm hkm i1 lc eC nC mC cf lt eT nT mT tf hMo h1i h2i (nI t) htM w9 ((hgm 16).trans (a3.symm.trans hw9)) h9 ((hgm 14).trans (a2.symm.trans hh9)) (by rw [nI_add]; exact nI_le (b := 9999) h3i (by decide))) (cwV 1 hts gL_law_X11_pass rfl rfl rfl (by decide +kernel) ⟨Nat.le_of_ble_eq_true rfl, Nat.le_of_ble_eq_true rfl⟩) (z_preV (Xc := []) hK hE hI [] rfl rfl (z_recv hK hI hkm rfl rfl)) rfl rfl hl.1 rfl (lv_room (Nat.le_of_ble_eq_true rfl)) dL_law_556 ⟨(show 60 + 20 * k + 37 * t + 1 + 37 * i1 ≤ 841393 from by omega), (show 400 + 120 * k + 162 * t + 6 + 162 * i1 ≤ 6571924 from by omega)⟩) (fun w u H locs hw hI => ?_)
    obtain ⟨hr2, g2, rfl, hk9⟩ := hw
    rw [hg1] at hk9
    have hJ : zJ κ g2 z0 px pm rq co sp aC aT (t + i1) := zJ.pass hJ hko hk8 hk9 h3i
    have hI : zI D tc (zA [] [] s.heap.size) s.heap [] L κ g2 H locs := hI
    refine lv_istore (lv' := [(7, .int w), (6, .int v), (0, .ref b), (1, .ref px), (2, .ref pm), (3, .ref po), (4, .ref pd), (5, .int (nI (4 * k)))]) hx hb dL_law_559 hl (by decide) rfl (fun ls hl => ?_)
    refine lv_goto (tgt := 1392) hx hb dL_law_561 (by decide) ?_
    have hl := lv_sub hl [2, 3, 4, 5, 6, 7] (l' := [(0, .ref b), (1, .ref px), (2, .ref pm), (3, .ref po), (4, .ref pd), (5, .int (nI (4 * k)))]) rfl
    refine W.widen (k := 60 + 20 * (k + 1) + 37 * (t + i1)) (n := 400 + 120 * (k + 1) + 162 * (t + i1)) (by omega) (by omega) ?_
    refine W.base ?_
    exact hN s.drawn L κ g2 _ _ _ _ (Drawn.sameBut.refl _ _) hJ hko hkd hI hl
  · rcases hp with ⟨⟨_, q1⟩ | ⟨q0, _⟩, hp⟩
    · cases hp
      have n_px_pm : px ≠ pm := z_apart hkx hkm (by decide)
      have n_px_rq : px ≠ rq := z_apart hkx hkq (by decide)
      have n_px_co : px ≠ co := z_apart hkx hkO (by decide)
      have n_px_sp : px ≠ sp := z_apart hkx hkS (by decide)
      have n_px_po : px ≠ po := z_apart hkx hko (by decide)
      have n_pm_px : pm ≠ px := z_apart hkm hkx (by decide)
      have n_pm_rq : pm ≠ rq := z_apart hkm hkq (by decide)
      have n_pm_co : pm ≠ co := z_apart hkm hkO (by decide)
      have n_pm_sp : pm ≠ sp := z_apart hkm hkS (by decide)
      have n_pm_po : pm ≠ po := z_apart hkm hko (by decide)
      have n_rq_px : rq ≠ px := z_apart hkq hkx (by decide)
      have n_rq_pm : rq ≠ pm := z_apart hkq hkm (by decide)
      have n_rq_co : rq ≠ co := z_apart hkq hkO (by decide)
      have n_rq_sp : rq ≠ sp := z_apart hkq hkS (by decide)
      have n_rq_po : rq ≠ po := z_apart hkq hko (by decide)
      have n_co_px : co ≠ px := z_apart hkO hkx (by decide)
      have n_co_pm : co ≠ pm := z_apart hkO hkm (by decide)
      have n_co_rq : co ≠ rq := z_apart hkO hkq (by decide)
      have n_co_sp : co ≠ sp := z_apart hkO hkS (by decide)
      have n_co_po : co ≠ po := z_apart hkO hko (by decide)
      have n_sp_px : sp ≠ px := z_apart hkS hkx (by decide)
      have n_sp_pm : sp ≠ pm := z_apart hkS hkm (by decide)
      have n_sp_rq : sp ≠ rq := z_apart hkS hkq (by decide)
      have n_sp_co : sp ≠ co := z_apart hkS hkO (by decide)
      have n_sp_po : sp ≠ po := z_apart hkS hko (by decide)
      have n_po_px : po ≠ px := z_apart hko hkx (by decide)
      have n_po_pm : po ≠ pm := z_apart hko hkm (by decide)
      have n_po_rq : po ≠ rq := z_apart hko hkq (by decide)
      have n_po_co : po ≠ co := z_apart hko hkO (by decide)
      have n_po_sp : po ≠ sp := z_apart hko hkS (by decide)
      have hz : zLc κ g z0 px pm rq co sp aC aT t := hJ.1
      have hI : zI D tc (zA [] [] s.heap.size) s.heap [] L κ g H locs := hI
      obtain ⟨g1, hg1⟩ : ∃ x, x = g := ⟨_, rfl⟩
      rw [← hg1] at hI hz
      have hgm : ∀ j, g1 pm j = g pm j := fun j => by subst hg1; simp [zup, n_px_pm, n_px_rq, n_px_co, n_px_sp, n_px_po, n_pm_px, n_pm_rq, n_pm_co, n_pm_sp, n_pm_po, n_rq_px, n_rq_pm, n_rq_co, n_rq_sp, n_rq_po, n_co_px, n_co_pm, n_co_rq, n_co_sp, n_co_po, n_sp_px, n_sp_pm, n_sp_rq, n_sp_co, n_sp_po, n_po_px, n_po_pm, n_po_rq, n_po_co, n_po_sp]
      have hbad : (1 ≤ (xs (nI (4 * k + 1)).toNatClampNeg) ∧ (xs (nI (4 * k + 1)).toNatClampNeg) ≤ 100) → 9999 < nI t + (xs (nI (4 * k + 1)).toNatClampNeg) := (fun q => absurd q q1)
      refine lv_istore (lv' := [(6, .int v), (0, .ref b), (1, .ref px), (2, .ref pm), (3, .ref po), (4, .ref pd), (5, .int (nI (4 * k)))]) hx hb dL_law_547 hl (by decide) rfl (fun ls hl => ?_)
      refine lv_aload_n hx hb dL_law_549 rfl (lv_at hl 3 rfl) ?_
      refine lv_aload_n hx hb dL_law_550 rfl (lv_at hl 1 rfl) ?_
      refine lv_iload hx hb dL_law_551 (lv_at hl 6 rfl) ?_
      refine lv_iconst (v := 1) hx hb dL_law_553 (by decide) ?_
      refine lv_iadd hx hb dL_law_554 ?_
      rw [show nI (4 * k) + 1 = nI (4 * k + 1) from nI_add _ _]
      refine va_sld hx hb hX hbl hbA hI.2.1 (vp_in_nI (show 4 * k + 1 < N from by omega) (by omega)) dL_law_555 ?_
      obtain ⟨⟨hkx, hkm, hkq, hkO, hkS, hkC, hkT⟩, ⟨hR, hO, hS9, hC, hT⟩, ⟨htM, htb⟩, lc, eC, nC, mC, cf, lt, eT, nT, mT, tf, hMo, hCo, hTh⟩ := id hz
      refine z_ci hI (va_runV (As := [.int (xs (nI (4 * k + 1)).toNatClampNeg)]) (rest := []) ⟨hx, hb, hml, hown, hts⟩ (c_X11_pass_bad l D tc z0 _ κ g1 _ pm hkm (xs (nI (4 * k + 1)).toNatClampNeg)  (nI t) htM hbad) (cwV 1 hts gL_law_X11_pass rfl rfl rfl (by decide +kernel) ⟨Nat.le_of_ble_eq_true rfl, Nat.le_of_ble_eq_true rfl⟩) (z_preV (Xc := []) hK hE hI [] rfl rfl (z_recv hK hI hkm rfl rfl)) rfl rfl hl.1 rfl (lv_room (Nat.le_of_ble_eq_true rfl)) dL_law_556 ⟨(show 60 + 20 * k + 37 * t + 1 + 0 ≤ 841393 from by omega), (show 400 + 120 * k + 162 * t + 6 + 0 ≤ 6571924 from by omega)⟩) (fun w u H locs hw hI => ?_)
      obtain ⟨hr2, ⟨w1, rfl⟩ | ⟨w1, rfl⟩⟩ := hw
      · skip
        have hJ : zJ κ (zup g1 pm 12 (.int 1)) z0 px pm rq co sp aC aT t := ⟨hz.upM (by decide), (by unfold zAg; subst hg1; simp [zup, n_px_pm, n_px_rq, n_px_co, n_px_sp, n_px_po, n_pm_px, n_pm_rq, n_pm_co, n_pm_sp, n_pm_po, n_rq_px, n_rq_pm, n_rq_co, n_rq_sp, n_rq_po, n_co_px, n_co_pm, n_co_rq, n_co_sp, n_co_po, n_sp_px, n_sp_pm, n_sp_rq, n_sp_co, n_sp_po, n_po_px, n_po_pm, n_po_rq, n_po_co, n_po_sp, a0, a1, a2, a3, a4, a5, a6, a7])⟩
        have hI : zI D tc (zA [] [] s.heap.size) s.heap [] L κ (zup g1 pm 12 (.int 1)) H locs := hI
        generalize (zup g1 pm 12 (.int 1)) = g3 at hI hJ
        refine lv_istore (lv' := [(7, .int w), (6, .int v), (0, .ref b), (1, .ref px), (2, .ref pm), (3, .ref po), (4, .ref pd), (5, .int (nI (4 * k)))]) hx hb dL_law_559 hl (by decide) rfl (fun ls hl => ?_)
        refine lv_goto (tgt := 1392) hx hb dL_law_561 (by decide) ?_
        have hl := lv_sub hl [2, 3, 4, 5, 6, 7] (l' := [(0, .ref b), (1, .ref px), (2, .ref pm), (3, .ref po), (4, .ref pd), (5, .int (nI (4 * k)))]) rfl
        refine W.widen (k := 60 + 20 * (k + 1) + 37 * t) (n := 400 + 120 * (k + 1) + 162 * t) (by omega) (by omega) ?_
        refine W.base ?_
        exact hN s.drawn L κ g3 _ _ _ _ (Drawn.sameBut.refl _ _) hJ hko hkd hI hl
      · skip
        have hJ : zJ κ (zup g1 pm 12 (.int 2)) z0 px pm rq co sp aC aT t := ⟨hz.upM (by decide), (by unfold zAg; subst hg1; simp [zup, n_px_pm, n_px_rq, n_px_co, n_px_sp, n_px_po, n_pm_px, n_pm_rq, n_pm_co, n_pm_sp, n_pm_po, n_rq_px, n_rq_pm, n_rq_co, n_rq_sp, n_rq_po, n_co_px, n_co_pm, n_co_rq, n_co_sp, n_co_po, n_sp_px, n_sp_pm, n_sp_rq, n_sp_co, n_sp_po, n_po_px, n_po_pm, n_po_rq, n_po_co, n_po_sp, a0, a1, a2, a3, a4, a5, a6, a7])⟩
        have hI : zI D tc (zA [] [] s.heap.size) s.heap [] L κ (zup g1 pm 12 (.int 2)) H locs := hI
        generalize (zup g1 pm 12 (.int 2)) = g3 at hI hJ
        refine lv_istore (lv' := [(7, .int w), (6, .int v), (0, .ref b), (1, .ref px), (2, .ref pm), (3, .ref po), (4, .ref pd), (5, .int (nI (4 * k)))]) hx hb dL_law_559 hl (by decide) rfl (fun ls hl => ?_)
        refine lv_goto (tgt := 1392) hx hb dL_law_561 (by decide) ?_
        have hl := lv_sub hl [2, 3, 4, 5, 6, 7] (l' := [(0, .ref b), (1, .ref px), (2, .ref pm), (3, .ref po), (4, .ref pd), (5, .int (nI (4 * k)))]) rfl
        refine W.widen (k := 60 + 20 * (k + 1) + 37 * t) (n := 400 + 120 * (k + 1) + 162 * t) (by omega) (by omega) ?_
        refine W.base ?_
        exact hN s.drawn L κ g3 _ _ _ _ (Drawn.sameBut.refl _ _) hJ hko hkd hI hl
    · exact absurd q0 (by decide)
  · rcases hp with ⟨⟨q0, _⟩ | ⟨_, q1, q2⟩, hp⟩
    · exact absurd q0 (by decide)
    · cases hp
      have n_px_pm : px ≠ pm := z_apart hkx hkm (by decide)
      have n_px_rq : px ≠ rq := z_apart hkx hkq (by decide)
      have n_px_co : px ≠ co := z_apart hkx hkO (by decide)
      have n_px_sp : px ≠ sp := z_apart hkx hkS (by decide)
      have n_px_po : px ≠ po := z_apart hkx hko (by decide)
      have n_pm_px : pm ≠ px := z_apart hkm hkx (by decide)
      have n_pm_rq : pm ≠ rq := z_apart hkm hkq (by decide)
      have n_pm_co : pm ≠ co := z_apart hkm hkO (by decide)
      have n_pm_sp : pm ≠ sp := z_apart hkm hkS (by decide)
      have n_pm_po : pm ≠ po := z_apart hkm hko (by decide)
      have n_rq_px : rq ≠ px := z_apart hkq hkx (by decide)
      have n_rq_pm : rq ≠ pm := z_apart hkq hkm (by decide)
      have n_rq_co : rq ≠ co := z_apart hkq hkO (by decide)
      have n_rq_sp : rq ≠ sp := z_apart hkq hkS (by decide)
      have n_rq_po : rq ≠ po := z_apart hkq hko (by decide)
      have n_co_px : co ≠ px := z_apart hkO hkx (by decide)
      have n_co_pm : co ≠ pm := z_apart hkO hkm (by decide)
      have n_co_rq : co ≠ rq := z_apart hkO hkq (by decide)
      have n_co_sp : co ≠ sp := z_apart hkO hkS (by decide)
      have n_co_po : co ≠ po := z_apart hkO hko (by decide)
      have n_sp_px : sp ≠ px := z_apart hkS hkx (by decide)
      have n_sp_pm : sp ≠ pm := z_apart hkS hkm (by decide)
      have n_sp_rq : sp ≠ rq := z_apart hkS hkq (by decide)
      have n_sp_co : sp ≠ co := z_apart hkS hkO (by decide)
      have n_sp_po : sp ≠ po := z_apart hkS hko (by decide)
      have n_po_px : po ≠ px := z_apart hko hkx (by decide)
      have n_po_pm : po ≠ pm := z_apart hko hkm (by decide)
      have n_po_rq : po ≠ rq := z_apart hko hkq (by decide)
      have n_po_co : po ≠ co := z_apart hko hkO (by decide)
      have n_po_sp : po ≠ sp := z_apart hko hkS (by decide)
      have hz : zLc κ g z0 px pm rq co sp aC aT t := hJ.1
      have hI : zI D tc (zA [] [] s.heap.size) s.heap [] L κ g H locs := hI
      obtain ⟨g1, hg1⟩ : ∃ x, x = g := ⟨_, rfl⟩
      rw [← hg1] at hI hz
      have hgm : ∀ j, g1 pm j = g pm j := fun j => by subst hg1; simp [zup, n_px_pm, n_px_rq, n_px_co, n_px_sp, n_px_po, n_pm_px, n_pm_rq, n_pm_co, n_pm_sp, n_pm_po, n_rq_px, n_rq_pm, n_rq_co, n_rq_sp, n_rq_po, n_co_px, n_co_pm, n_co_rq, n_co_sp, n_co_po, n_sp_px, n_sp_pm, n_sp_rq, n_sp_co, n_sp_po, n_po_px, n_po_pm, n_po_rq, n_po_co, n_po_sp]
      have hbad : (1 ≤ (xs (nI (4 * k + 1)).toNatClampNeg) ∧ (xs (nI (4 * k + 1)).toNatClampNeg) ≤ 100) → 9999 < nI t + (xs (nI (4 * k + 1)).toNatClampNeg) := (fun _ => q2)
      refine lv_istore (lv' := [(6, .int v), (0, .ref b), (1, .ref px), (2, .ref pm), (3, .ref po), (4, .ref pd), (5, .int (nI (4 * k)))]) hx hb dL_law_547 hl (by decide) rfl (fun ls hl => ?_)
      refine lv_aload_n hx hb dL_law_549 rfl (lv_at hl 3 rfl) ?_
      refine lv_aload_n hx hb dL_law_550 rfl (lv_at hl 1 rfl) ?_
      refine lv_iload hx hb dL_law_551 (lv_at hl 6 rfl) ?_
      refine lv_iconst (v := 1) hx hb dL_law_553 (by decide) ?_
      refine lv_iadd hx hb dL_law_554 ?_
      rw [show nI (4 * k) + 1 = nI (4 * k + 1) from nI_add _ _]
      refine va_sld hx hb hX hbl hbA hI.2.1 (vp_in_nI (show 4 * k + 1 < N from by omega) (by omega)) dL_law_555 ?_
      obtain ⟨⟨hkx, hkm, hkq, hkO, hkS, hkC, hkT⟩, ⟨hR, hO, hS9, hC, hT⟩, ⟨htM, htb⟩, lc, eC, nC, mC, cf, lt, eT, nT, mT, tf, hMo, hCo, hTh⟩ := id hz
      refine z_ci hI (va_runV (As := [.int (xs (nI (4 * k + 1)).toNatClampNeg)]) (rest := []) ⟨hx, hb, hml, hown, hts⟩ (c_X11_pass_bad l D tc z0 _ κ g1 _ pm hkm (xs (nI (4 * k + 1)).toNatClampNeg)  (nI t) htM hbad) (cwV 1 hts gL_law_X11_pass rfl rfl rfl (by decide +kernel) ⟨Nat.le_of_ble_eq_true rfl, Nat.le_of_ble_eq_true rfl⟩) (z_preV (Xc := []) hK hE hI [] rfl rfl (z_recv hK hI hkm rfl rfl)) rfl rfl hl.1 rfl (lv_room (Nat.le_of_ble_eq_true rfl)) dL_law_556 ⟨(show 60 + 20 * k + 37 * t + 1 + 0 ≤ 841393 from by omega), (show 400 + 120 * k + 162 * t + 6 + 0 ≤ 6571924 from by omega)⟩) (fun w u H locs hw hI => ?_)
      obtain ⟨hr2, ⟨w1, rfl⟩ | ⟨w1, rfl⟩⟩ := hw
      · skip
        have hJ : zJ κ (zup g1 pm 12 (.int 1)) z0 px pm rq co sp aC aT t := ⟨hz.upM (by decide), (by unfold zAg; subst hg1; simp [zup, n_px_pm, n_px_rq, n_px_co, n_px_sp, n_px_po, n_pm_px, n_pm_rq, n_pm_co, n_pm_sp, n_pm_po, n_rq_px, n_rq_pm, n_rq_co, n_rq_sp, n_rq_po, n_co_px, n_co_pm, n_co_rq, n_co_sp, n_co_po, n_sp_px, n_sp_pm, n_sp_rq, n_sp_co, n_sp_po, n_po_px, n_po_pm, n_po_rq, n_po_co, n_po_sp, a0, a1, a2, a3, a4, a5, a6, a7])⟩
        have hI : zI D tc (zA [] [] s.heap.size) s.heap [] L κ (zup g1 pm 12 (.int 1)) H locs := hI
        generalize (zup g1 pm 12 (.int 1)) = g3 at hI hJ
        refine lv_istore (lv' := [(7, .int w), (6, .int v), (0, .ref b), (1, .ref px), (2, .ref pm), (3, .ref po), (4, .ref pd), (5, .int (nI (4 * k)))]) hx hb dL_law_559 hl (by decide) rfl (fun ls hl => ?_)
        refine lv_goto (tgt := 1392) hx hb dL_law_561 (by decide) ?_
        have hl := lv_sub hl [2, 3, 4, 5, 6, 7] (l' := [(0, .ref b), (1, .ref px), (2, .ref pm), (3, .ref po), (4, .ref pd), (5, .int (nI (4 * k)))]) rfl
        refine W.widen (k := 60 + 20 * (k + 1) + 37 * t) (n := 400 + 120 * (k + 1) + 162 * t) (by omega) (by omega) ?_
        refine W.base ?_
        exact hN s.drawn L κ g3 _ _ _ _ (Drawn.sameBut.refl _ _) hJ hko hkd hI hl
      · skip
        have hJ : zJ κ (zup g1 pm 12 (.int 2)) z0 px pm rq co sp aC aT t := ⟨hz.upM (by decide), (by unfold zAg; subst hg1; simp [zup, n_px_pm, n_px_rq, n_px_co, n_px_sp, n_px_po, n_pm_px, n_pm_rq, n_pm_co, n_pm_sp, n_pm_po, n_rq_px, n_rq_pm, n_rq_co, n_rq_sp, n_rq_po, n_co_px, n_co_pm, n_co_rq, n_co_sp, n_co_po, n_sp_px, n_sp_pm, n_sp_rq, n_sp_co, n_sp_po, n_po_px, n_po_pm, n_po_rq, n_po_co, n_po_sp, a0, a1, a2, a3, a4, a5, a6, a7])⟩
        have hI : zI D tc (zA [] [] s.heap.size) s.heap [] L κ (zup g1 pm 12 (.int 2)) H locs := hI
        generalize (zup g1 pm 12 (.int 2)) = g3 at hI hJ
        refine lv_istore (lv' := [(7, .int w), (6, .int v), (0, .ref b), (1, .ref px), (2, .ref pm), (3, .ref po), (4, .ref pd), (5, .int (nI (4 * k)))]) hx hb dL_law_559 hl (by decide) rfl (fun ls hl => ?_)
        refine lv_goto (tgt := 1392) hx hb dL_law_561 (by decide) ?_
        have hl := lv_sub hl [2, 3, 4, 5, 6, 7] (l' := [(0, .ref b), (1, .ref px), (2, .ref pm), (3, .ref po), (4, .ref pd), (5, .int (nI (4 * k)))]) rfl
        refine W.widen (k := 60 + 20 * (k + 1) + 37 * t) (n := 400 + 120 * (k + 1) + 162 * t) (by omega) (by omega) ?_
        refine W.base ?_
        exact hN s.drawn L κ g3 _ _ _ _ (Drawn.sameBut.refl _ _) hJ hko hkd hI hl

set_option maxHeartbeats 4000000 in
set_option maxRecDepth 100000 in
theorem k_speed (l : Launch) (hnt : l.stackTraces = false) {p : Program} {e : Env} {s : State} {m : MethodId} {below : List Frame} {meth : Method} {c : Code} {H : Heap} {locs : List Loc} {Q : State → Prop} {D : va_G} {tc : Nat → ClassId} {z0 b N : Nat} {xs : Nat → Int32} {px pm po pd rq co sp aC aT t k : Nat} {L : List Nat} {κ : Nat → Nat} {g : Nat → Nat → Value} {ls : Array Slot} (C : lwC p s m meth c b N xs D tc z0) (hk : 4 * k + 4 ≤ N) (hN8 : N ≤ 2048) (hJ : zJ κ g z0 px pm rq co sp aC aT t) (hko : κ po = 29) (hkd : κ pd = 30) (hI : zI D tc (zA [] [] s.heap.size) s.heap [] L κ g H locs) (hl : lv_has ls 9 [(0, .ref b), (1, .ref px), (2, .ref pm), (3, .ref po), (4, .ref pd), (5, .int (nI (4 * k)))]) (hN : lwN p l e s m below meth c b D tc z0 px pm po pd rq co sp aC aT k Q) : W p l e room_1 s m #[Value.ref b] below meth c H locs (60 + 20 * k + 37 * t) (400 + 120 * k + 162 * t) Q (F0 m 564 ls []) := by
  obtain ⟨hx, hb, hml, hown, hts, hK, hE, hX, hbl⟩ := C
  have hbA : ¬ zA [] [] s.heap.size b := fun q => by rcases q with q | q | q; exact absurd q List.not_mem_nil; exact absurd q List.not_mem_nil; exact absurd hbl (Nat.not_lt.mpr q)
  have htb9 : t ≤ 9999 := hJ.1.2.2.1.2
  refine lv_aload_n hx hb dL_law_564 rfl (lv_at hl 1 rfl) ?_
  refine lv_aload_n hx hb dL_law_565 rfl (lv_at hl 0 rfl) ?_
  refine lv_iload hx hb dL_law_566 (lv_at hl 5 rfl) ?_
  refine lv_iconst (v := 1) hx hb dL_law_568 (by decide) ?_
  refine lv_iadd hx hb dL_law_569 ?_
  rw [show nI (4 * k) + 1 = nI (4 * k + 1) from nI_add _ _]
  refine va_sld hx hb hX hbl hbA hI.2.1 (vp_in_nI (show 4 * k + 1 < N from by omega) (by omega)) dL_law_570 ?_
  refine lv_aload_n hx hb dL_law_571 rfl (lv_at hl 3 rfl) ?_
  obtain ⟨⟨⟨hkx, hkm, hkq, hkO, hkS, hkC, hkT⟩, ⟨hR, hO, hS9, hC, hT⟩, ⟨htM, htb⟩, lc, eC, nC, mC, cf, lt, eT, nT, mT, tf, hMo, hCo, hTh⟩, a0, a1, a2, a3, a4, a5, a6, a7⟩ := id hJ
  refine z_xi hI (vx_runSX (As := [.ref px, .int (xs (nI (4 * k + 1)).toNatClampNeg), .ref po]) (rest := []) ⟨hx, hb, hml, hown, hts⟩ (c_L_speed l hnt D tc z0 _ κ g _ px hkx (xs (nI (4 * k + 1)).toNatClampNeg) po hko aC hC) (vx_cwSW 3 hts gL_law_L_speed rfl rfl rfl (by decide +kernel) ⟨Nat.le_of_ble_eq_true rfl, Nat.le_of_ble_eq_true rfl⟩) (z_pre (Xc := []) hK hE hI [] rfl rfl) rfl rfl hl.1 rfl (lv_room (Nat.le_of_ble_eq_true rfl)) dL_law_572 ⟨(show 60 + 20 * k + 37 * t + 1 ≤ 841393 from by omega), (show 400 + 120 * k + 162 * t + 6 ≤ 6571924 from by omega)⟩) (fun E ce q9 u H locs hw hI he1 he2 he3 => hw.elim) (fun v u H locs hw hI => ?_)
  obtain ⟨L1, κ1, g1⟩ := u
  have hI : zI D tc (zA [] [] s.heap.size) s.heap [] L1 κ1 g1 H locs := hI
  have hJ : zJ κ1 g1 z0 px pm rq co sp aC aT t ∧ κ1 po = 29 ∧ κ1 pd = 30 := by
    rcases hw with ⟨_, r1, u1, v9, hp, hv9, hu⟩ | ⟨_, hp⟩
    · cases hu
      obtain ⟨_, hp⟩ := hp
      cases hp
      exact ⟨hJ.up hko (by decide), hko, hkd⟩
    · obtain ⟨_, hp⟩ := hp
      cases hp
      exact ⟨hJ, hko, hkd⟩
  obtain ⟨hJ, hko, hkd⟩ := hJ
  clear hw
  obtain ⟨L, rfl⟩ : ∃ x, x = L1 := ⟨_, rfl⟩
  obtain ⟨κ, rfl⟩ : ∃ x, x = κ1 := ⟨_, rfl⟩
  obtain ⟨g, rfl⟩ : ∃ x, x = g1 := ⟨_, rfl⟩
  refine lv_istore (lv' := [(6, .int v), (0, .ref b), (1, .ref px), (2, .ref pm), (3, .ref po), (4, .ref pd), (5, .int (nI (4 * k)))]) hx hb dL_law_575 hl (by decide) rfl (fun ls hl => ?_)
  refine lv_aload_n hx hb dL_law_577 rfl (lv_at hl 3 rfl) ?_
  refine lv_aload_n hx hb dL_law_578 rfl (lv_at hl 1 rfl) ?_
  refine lv_iload hx hb dL_law_579 (lv_at hl 6 rfl) ?_
  refine lv_iconst (v := 1) hx hb dL_law_581 (by decide) ?_
  refine lv_iadd hx hb dL_law_582 ?_
  rw [show nI (4 * k) + 1 = nI (4 * k + 1) from nI_add _ _]
  refine va_sld hx hb hX hbl hbA hI.2.1 (vp_in_nI (show 4 * k + 1 < N from by omega) (by omega)) dL_law_583 ?_
  obtain ⟨⟨⟨hkx, hkm, hkq, hkO, hkS, hkC, hkT⟩, ⟨hR, hO, hS9, hC, hT⟩, ⟨htM, htb⟩, lc, eC, nC, mC, cf, lt, eT, nT, mT, tf, hMo, hCo, hTh⟩, a0, a1, a2, a3, a4, a5, a6, a7⟩ := id hJ
  refine z_ci hI (va_runV (As := [.int (xs (nI (4 * k + 1)).toNatClampNeg)]) (rest := []) ⟨hx, hb, hml, hown, hts⟩ (c_X11_speed l D tc z0 _ κ g _ pm hkm (xs (nI (4 * k + 1)).toNatClampNeg) lc eC nC mC cf lt eT nT mT tf hMo ) (cwV 1 hts gL_law_X11_speed rfl rfl rfl (by decide +kernel) ⟨Nat.le_of_ble_eq_true rfl, Nat.le_of_ble_eq_true rfl⟩) (z_preV (Xc := []) hK hE hI [] rfl rfl (z_recv hK hI hkm rfl rfl)) rfl rfl hl.1 rfl (lv_room (Nat.le_of_ble_eq_true rfl)) dL_law_584 ⟨(show 60 + 20 * k + 37 * t + 1 + 0 ≤ 841393 from by omega), (show 400 + 120 * k + 162 * t + 6 + 0 ≤ 6571924 from by omega)⟩) (fun w u H locs hw hI => ?_)
  obtain ⟨x9, rfl⟩ := hw
  have hJ := hJ.upM (j := 12) (v := .int x9) (by decide)
  have hI : zI D tc (zA [] [] s.heap.size) s.heap [] L κ (zup g pm 12 (.int x9)) H locs := hI
  generalize (zup g pm 12 (.int x9)) = g at hI hJ
  refine lv_istore (lv' := [(7, .int w), (6, .int v), (0, .ref b), (1, .ref px), (2, .ref pm), (3, .ref po), (4, .ref pd), (5, .int (nI (4 * k)))]) hx hb dL_law_587 hl (by decide) rfl (fun ls hl => ?_)
  refine lv_goto (tgt := 1392) hx hb dL_law_589 (by decide) ?_
  have hl := lv_sub hl [2, 3, 4, 5, 6, 7] (l' := [(0, .ref b), (1, .ref px), (2, .ref pm), (3, .ref po), (4, .ref pd), (5, .int (nI (4 * k)))]) rfl
  refine W.widen (k := 60 + 20 * (k + 1) + 37 * t) (n := 400 + 120 * (k + 1) + 162 * t) (by omega) (by omega) ?_
  refine W.base ?_
  exact hN s.drawn L κ g _ _ _ _ (Drawn.sameBut.refl _ _) hJ hko hkd hI hl

set_option maxHeartbeats 4000000 in
set_option maxRecDepth 100000 in
theorem k_wanted (l : Launch) (hnt : l.stackTraces = false) {p : Program} {e : Env} {s : State} {m : MethodId} {below : List Frame} {meth : Method} {c : Code} {H : Heap} {locs : List Loc} {Q : State → Prop} {D : va_G} {tc : Nat → ClassId} {z0 b N : Nat} {xs : Nat → Int32} {px pm po pd rq co sp aC aT t k : Nat} {L : List Nat} {κ : Nat → Nat} {g : Nat → Nat → Value} {ls : Array Slot} (C : lwC p s m meth c b N xs D tc z0) (hk : 4 * k + 4 ≤ N) (hN8 : N ≤ 2048) (hJ : zJ κ g z0 px pm rq co sp aC aT t) (hko : κ po = 29) (hkd : κ pd = 30) (hI : zI D tc (zA [] [] s.heap.size) s.heap [] L κ g H locs) (hl : lv_has ls 9 [(0, .ref b), (1, .ref px), (2, .ref pm), (3, .ref po), (4, .ref pd), (5, .int (nI (4 * k)))]) (hN : lwN p l e s m below meth c b D tc z0 px pm po pd rq co sp aC aT k Q) : W p l e room_1 s m #[Value.ref b] below meth c H locs (60 + 20 * k + 37 * t) (400 + 120 * k + 162 * t) Q (F0 m 592 ls []) := by
  obtain ⟨hx, hb, hml, hown, hts, hK, hE, hX, hbl⟩ := C
  have hbA : ¬ zA [] [] s.heap.size b := fun q => by rcases q with q | q | q; exact absurd q List.not_mem_nil; exact absurd q List.not_mem_nil; exact absurd hbl (Nat.not_lt.mpr q)
  have htb9 : t ≤ 9999 := hJ.1.2.2.1.2
  refine lv_aload_n hx hb dL_law_592 rfl (lv_at hl 1 rfl) ?_
  refine lv_aload_n hx hb dL_law_593 rfl (lv_at hl 0 rfl) ?_
  refine lv_iload hx hb dL_law_594 (lv_at hl 5 rfl) ?_
  refine lv_iconst (v := 1) hx hb dL_law_596 (by decide) ?_
  refine lv_iadd hx hb dL_law_597 ?_
  rw [show nI (4 * k) + 1 = nI (4 * k + 1) from nI_add _ _]
  refine va_sld hx hb hX hbl hbA hI.2.1 (vp_in_nI (show 4 * k + 1 < N from by omega) (by omega)) dL_law_598 ?_
  refine lv_aload_n hx hb dL_law_599 rfl (lv_at hl 3 rfl) ?_
  obtain ⟨⟨⟨hkx, hkm, hkq, hkO, hkS, hkC, hkT⟩, ⟨hR, hO, hS9, hC, hT⟩, ⟨htM, htb⟩, lc, eC, nC, mC, cf, lt, eT, nT, mT, tf, hMo, hCo, hTh⟩, a0, a1, a2, a3, a4, a5, a6, a7⟩ := id hJ
  refine z_xi hI (vx_runSX (As := [.ref px, .int (xs (nI (4 * k + 1)).toNatClampNeg), .ref po]) (rest := []) ⟨hx, hb, hml, hown, hts⟩ (c_L_wanted l hnt D tc z0 _ κ g _ px hkx (xs (nI (4 * k + 1)).toNatClampNeg) po hko aC hC) (vx_cwSW 3 hts gL_law_L_wanted rfl rfl rfl (by decide +kernel) ⟨Nat.le_of_ble_eq_true rfl, Nat.le_of_ble_eq_true rfl⟩) (z_pre (Xc := []) hK hE hI [] rfl rfl) rfl rfl hl.1 rfl (lv_room (Nat.le_of_ble_eq_true rfl)) dL_law_600 ⟨(show 60 + 20 * k + 37 * t + 1 ≤ 841393 from by omega), (show 400 + 120 * k + 162 * t + 6 ≤ 6571924 from by omega)⟩) (fun E ce q9 u H locs hw hI he1 he2 he3 => hw.elim) (fun v u H locs hw hI => ?_)
  obtain ⟨L1, κ1, g1⟩ := u
  have hI : zI D tc (zA [] [] s.heap.size) s.heap [] L1 κ1 g1 H locs := hI
  have hJ : zJ κ1 g1 z0 px pm rq co sp aC aT t ∧ κ1 po = 29 ∧ κ1 pd = 30 := by
    rcases hw with ⟨_, r1, u1, v9, hp, hv9, hu⟩ | ⟨_, hp⟩
    · cases hu
      obtain ⟨_, hp⟩ := hp
      cases hp
      exact ⟨hJ.up hko (by decide), hko, hkd⟩
    · obtain ⟨_, hp⟩ := hp
      cases hp
      exact ⟨hJ, hko, hkd⟩
  obtain ⟨hJ, hko, hkd⟩ := hJ
  clear hw
  obtain ⟨L, rfl⟩ : ∃ x, x = L1 := ⟨_, rfl⟩
  obtain ⟨κ, rfl⟩ : ∃ x, x = κ1 := ⟨_, rfl⟩
  obtain ⟨g, rfl⟩ : ∃ x, x = g1 := ⟨_, rfl⟩
  refine lv_istore (lv' := [(6, .int v), (0, .ref b), (1, .ref px), (2, .ref pm), (3, .ref po), (4, .ref pd), (5, .int (nI (4 * k)))]) hx hb dL_law_603 hl (by decide) rfl (fun ls hl => ?_)
  refine lv_aload_n hx hb dL_law_605 rfl (lv_at hl 3 rfl) ?_
  refine lv_aload_n hx hb dL_law_606 rfl (lv_at hl 1 rfl) ?_
  refine lv_iload hx hb dL_law_607 (lv_at hl 6 rfl) ?_
  refine lv_iconst (v := 1) hx hb dL_law_609 (by decide) ?_
  refine lv_iadd hx hb dL_law_610 ?_
  rw [show nI (4 * k) + 1 = nI (4 * k + 1) from nI_add _ _]
  refine va_sld hx hb hX hbl hbA hI.2.1 (vp_in_nI (show 4 * k + 1 < N from by omega) (by omega)) dL_law_611 ?_
  obtain ⟨⟨⟨hkx, hkm, hkq, hkO, hkS, hkC, hkT⟩, ⟨hR, hO, hS9, hC, hT⟩, ⟨htM, htb⟩, lc, eC, nC, mC, cf, lt, eT, nT, mT, tf, hMo, hCo, hTh⟩, a0, a1, a2, a3, a4, a5, a6, a7⟩ := id hJ
  refine z_ci hI (va_runV (As := [.int (xs (nI (4 * k + 1)).toNatClampNeg)]) (rest := []) ⟨hx, hb, hml, hown, hts⟩ (c_X11_wanted l D tc z0 _ κ g _ pm hkm (xs (nI (4 * k + 1)).toNatClampNeg) lc eC nC mC cf lt eT nT mT tf hMo ) (cwV 1 hts gL_law_X11_wanted rfl rfl rfl (by decide +kernel) ⟨Nat.le_of_ble_eq_true rfl, Nat.le_of_ble_eq_true rfl⟩) (z_preV (Xc := []) hK hE hI [] rfl rfl (z_recv hK hI hkm rfl rfl)) rfl rfl hl.1 rfl (lv_room (Nat.le_of_ble_eq_true rfl)) dL_law_612 ⟨(show 60 + 20 * k + 37 * t + 1 + 0 ≤ 841393 from by omega), (show 400 + 120 * k + 162 * t + 6 + 0 ≤ 6571924 from by omega)⟩) (fun w u H locs hw hI => ?_)
  obtain ⟨x9, rfl⟩ := hw
  have hJ := hJ.upM (j := 12) (v := .int x9) (by decide)
  have hI : zI D tc (zA [] [] s.heap.size) s.heap [] L κ (zup g pm 12 (.int x9)) H locs := hI
  generalize (zup g pm 12 (.int x9)) = g at hI hJ
  refine lv_istore (lv' := [(7, .int w), (6, .int v), (0, .ref b), (1, .ref px), (2, .ref pm), (3, .ref po), (4, .ref pd), (5, .int (nI (4 * k)))]) hx hb dL_law_615 hl (by decide) rfl (fun ls hl => ?_)
  refine lv_goto (tgt := 1392) hx hb dL_law_617 (by decide) ?_
  have hl := lv_sub hl [2, 3, 4, 5, 6, 7] (l' := [(0, .ref b), (1, .ref px), (2, .ref pm), (3, .ref po), (4, .ref pd), (5, .int (nI (4 * k)))]) rfl
  refine W.widen (k := 60 + 20 * (k + 1) + 37 * t) (n := 400 + 120 * (k + 1) + 162 * t) (by omega) (by omega) ?_
  refine W.base ?_
  exact hN s.drawn L κ g _ _ _ _ (Drawn.sameBut.refl _ _) hJ hko hkd hI hl

set_option maxHeartbeats 4000000 in
set_option maxRecDepth 100000 in
theorem k_clamp (l : Launch) (hnt : l.stackTraces = false) {p : Program} {e : Env} {s : State} {m : MethodId} {below : List Frame} {meth : Method} {c : Code} {H : Heap} {locs : List Loc} {Q : State → Prop} {D : va_G} {tc : Nat → ClassId} {z0 b N : Nat} {xs : Nat → Int32} {px pm po pd rq co sp aC aT t k : Nat} {L : List Nat} {κ : Nat → Nat} {g : Nat → Nat → Value} {ls : Array Slot} (C : lwC p s m meth c b N xs D tc z0) (hk : 4 * k + 4 ≤ N) (hN8 : N ≤ 2048) (hJ : zJ κ g z0 px pm rq co sp aC aT t) (hko : κ po = 29) (hkd : κ pd = 30) (hI : zI D tc (zA [] [] s.heap.size) s.heap [] L κ g H locs) (hl : lv_has ls 9 [(0, .ref b), (1, .ref px), (2, .ref pm), (3, .ref po), (4, .ref pd), (5, .int (nI (4 * k)))]) (hN : lwN p l e s m below meth c b D tc z0 px pm po pd rq co sp aC aT k Q) : W p l e room_1 s m #[Value.ref b] below meth c H locs (60 + 20 * k + 37 * t) (400 + 120 * k + 162 * t) Q (F0 m 620 ls []) := by
  obtain ⟨hx, hb, hml, hown, hts, hK, hE, hX, hbl⟩ := C
  have hbA : ¬ zA [] [] s.heap.size b := fun q => by rcases q with q | q | q; exact absurd q List.not_mem_nil; exact absurd q List.not_mem_nil; exact absurd hbl (Nat.not_lt.mpr q)
  have htb9 : t ≤ 9999 := hJ.1.2.2.1.2
  refine lv_aload_n hx hb dL_law_620 rfl (lv_at hl 1 rfl) ?_
  refine lv_aload_n hx hb dL_law_621 rfl (lv_at hl 0 rfl) ?_
  refine lv_iload hx hb dL_law_622 (lv_at hl 5 rfl) ?_
  refine lv_iconst (v := 1) hx hb dL_law_624 (by decide) ?_
  refine lv_iadd hx hb dL_law_625 ?_
  rw [show nI (4 * k) + 1 = nI (4 * k + 1) from nI_add _ _]
  refine va_sld hx hb hX hbl hbA hI.2.1 (vp_in_nI (show 4 * k + 1 < N from by omega) (by omega)) dL_law_626 ?_
  refine lv_aload_n hx hb dL_law_627 rfl (lv_at hl 3 rfl) ?_
  obtain ⟨⟨⟨hkx, hkm, hkq, hkO, hkS, hkC, hkT⟩, ⟨hR, hO, hS9, hC, hT⟩, ⟨htM, htb⟩, lc, eC, nC, mC, cf, lt, eT, nT, mT, tf, hMo, hCo, hTh⟩, a0, a1, a2, a3, a4, a5, a6, a7⟩ := id hJ
  refine z_xi hI (vx_runSX (As := [.ref px, .int (xs (nI (4 * k + 1)).toNatClampNeg), .ref po]) (rest := []) ⟨hx, hb, hml, hown, hts⟩ (c_L_clamp l hnt D tc z0 _ κ g _ px hkx (xs (nI (4 * k + 1)).toNatClampNeg) po hko aC hC) (vx_cwSW 3 hts gL_law_L_clamp rfl rfl rfl (by decide +kernel) ⟨Nat.le_of_ble_eq_true rfl, Nat.le_of_ble_eq_true rfl⟩) (z_pre (Xc := []) hK hE hI [] rfl rfl) rfl rfl hl.1 rfl (lv_room (Nat.le_of_ble_eq_true rfl)) dL_law_628 ⟨(show 60 + 20 * k + 37 * t + 1 ≤ 841393 from by omega), (show 400 + 120 * k + 162 * t + 6 ≤ 6571924 from by omega)⟩) (fun E ce q9 u H locs hw hI he1 he2 he3 => hw.elim) (fun v u H locs hw hI => ?_)
  obtain ⟨L1, κ1, g1⟩ := u
  have hI : zI D tc (zA [] [] s.heap.size) s.heap [] L1 κ1 g1 H locs := hI
  have hJ : zJ κ1 g1 z0 px pm rq co sp aC aT t ∧ κ1 po = 29 ∧ κ1 pd = 30 := by
    rcases hw with ⟨_, r1, u1, v9, hp, hv9, hu⟩ | ⟨_, hp⟩
    · cases hu
      obtain ⟨_, hp⟩ := hp
      cases hp
      exact ⟨hJ.up hko (by decide), hko, hkd⟩
    · obtain ⟨_, hp⟩ := hp
      cases hp
      exact ⟨hJ, hko, hkd⟩
  obtain ⟨hJ, hko, hkd⟩ := hJ
  clear hw
  obtain ⟨L, rfl⟩ : ∃ x, x = L1 := ⟨_, rfl⟩
  obtain ⟨κ, rfl⟩ : ∃ x, x = κ1 := ⟨_, rfl⟩
  obtain ⟨g, rfl⟩ : ∃ x, x = g1 := ⟨_, rfl⟩
  refine lv_istore (lv' := [(6, .int v), (0, .ref b), (1, .ref px), (2, .ref pm), (3, .ref po), (4, .ref pd), (5, .int (nI (4 * k)))]) hx hb dL_law_631 hl (by decide) rfl (fun ls hl => ?_)
  refine lv_aload_n hx hb dL_law_633 rfl (lv_at hl 3 rfl) ?_
  refine lv_aload_n hx hb dL_law_634 rfl (lv_at hl 1 rfl) ?_
  refine lv_iload hx hb dL_law_635 (lv_at hl 6 rfl) ?_
  refine lv_iconst (v := 1) hx hb dL_law_637 (by decide) ?_
  refine lv_iadd hx hb dL_law_638 ?_
  rw [show nI (4 * k) + 1 = nI (4 * k + 1) from nI_add _ _]
  refine va_sld hx hb hX hbl hbA hI.2.1 (vp_in_nI (show 4 * k + 1 < N from by omega) (by omega)) dL_law_639 ?_
  obtain ⟨⟨⟨hkx, hkm, hkq, hkO, hkS, hkC, hkT⟩, ⟨hR, hO, hS9, hC, hT⟩, ⟨htM, htb⟩, lc, eC, nC, mC, cf, lt, eT, nT, mT, tf, hMo, hCo, hTh⟩, a0, a1, a2, a3, a4, a5, a6, a7⟩ := id hJ
  refine z_ci hI (va_runV (As := [.int (xs (nI (4 * k + 1)).toNatClampNeg)]) (rest := []) ⟨hx, hb, hml, hown, hts⟩ (c_X11_clamp l D tc z0 _ κ g _ pm hkm (xs (nI (4 * k + 1)).toNatClampNeg) lc eC nC mC cf lt eT nT mT tf hMo ) (cwV 1 hts gL_law_X11_clamp rfl rfl rfl (by decide +kernel) ⟨Nat.le_of_ble_eq_true rfl, Nat.le_of_ble_eq_true rfl⟩) (z_preV (Xc := []) hK hE hI [] rfl rfl (z_recv hK hI hkm rfl rfl)) rfl rfl hl.1 rfl (lv_room (Nat.le_of_ble_eq_true rfl)) dL_law_640 ⟨(show 60 + 20 * k + 37 * t + 1 + 0 ≤ 841393 from by omega), (show 400 + 120 * k + 162 * t + 6 + 0 ≤ 6571924 from by omega)⟩) (fun w u H locs hw hI => ?_)
  obtain ⟨x9, rfl⟩ := hw
  have hJ := hJ.upM (j := 12) (v := .int x9) (by decide)
  have hI : zI D tc (zA [] [] s.heap.size) s.heap [] L κ (zup g pm 12 (.int x9)) H locs := hI
  generalize (zup g pm 12 (.int x9)) = g at hI hJ
  refine lv_istore (lv' := [(7, .int w), (6, .int v), (0, .ref b), (1, .ref px), (2, .ref pm), (3, .ref po), (4, .ref pd), (5, .int (nI (4 * k)))]) hx hb dL_law_643 hl (by decide) rfl (fun ls hl => ?_)
  refine lv_goto (tgt := 1392) hx hb dL_law_645 (by decide) ?_
  have hl := lv_sub hl [2, 3, 4, 5, 6, 7] (l' := [(0, .ref b), (1, .ref px), (2, .ref pm), (3, .ref po), (4, .ref pd), (5, .int (nI (4 * k)))]) rfl
  refine W.widen (k := 60 + 20 * (k + 1) + 37 * t) (n := 400 + 120 * (k + 1) + 162 * t) (by omega) (by omega) ?_
  refine W.base ?_
  exact hN s.drawn L κ g _ _ _ _ (Drawn.sameBut.refl _ _) hJ hko hkd hI hl

set_option maxHeartbeats 4000000 in
set_option maxRecDepth 100000 in
theorem k_sleep (l : Launch) (hnt : l.stackTraces = false) {p : Program} {e : Env} {s : State} {m : MethodId} {below : List Frame} {meth : Method} {c : Code} {H : Heap} {locs : List Loc} {Q : State → Prop} {D : va_G} {tc : Nat → ClassId} {z0 b N : Nat} {xs : Nat → Int32} {px pm po pd rq co sp aC aT t k : Nat} {L : List Nat} {κ : Nat → Nat} {g : Nat → Nat → Value} {ls : Array Slot} (C : lwC p s m meth c b N xs D tc z0) (hk : 4 * k + 4 ≤ N) (hN8 : N ≤ 2048) (hJ : zJ κ g z0 px pm rq co sp aC aT t) (hko : κ po = 29) (hkd : κ pd = 30) (hI : zI D tc (zA [] [] s.heap.size) s.heap [] L κ g H locs) (hl : lv_has ls 9 [(0, .ref b), (1, .ref px), (2, .ref pm), (3, .ref po), (4, .ref pd), (5, .int (nI (4 * k)))]) (hN : lwN p l e s m below meth c b D tc z0 px pm po pd rq co sp aC aT k Q) : W p l e room_1 s m #[Value.ref b] below meth c H locs (60 + 20 * k + 37 * t) (400 + 120 * k + 162 * t) Q (F0 m 648 ls []) := by
  obtain ⟨hx, hb, hml, hown, hts, hK, hE, hX, hbl⟩ := C
  have hbA : ¬ zA [] [] s.heap.size b := fun q => by rcases q with q | q | q; exact absurd q List.not_mem_nil; exact absurd q List.not_mem_nil; exact absurd hbl (Nat.not_lt.mpr q)
  have htb9 : t ≤ 9999 := hJ.1.2.2.1.2
  refine lv_aload_n hx hb dL_law_648 rfl (lv_at hl 1 rfl) ?_
  refine lv_aload_n hx hb dL_law_649 rfl (lv_at hl 0 rfl) ?_
  refine lv_iload hx hb dL_law_650 (lv_at hl 5 rfl) ?_
  refine lv_iconst (v := 1) hx hb dL_law_652 (by decide) ?_
  refine lv_iadd hx hb dL_law_653 ?_
  rw [show nI (4 * k) + 1 = nI (4 * k + 1) from nI_add _ _]
  refine va_sld hx hb hX hbl hbA hI.2.1 (vp_in_nI (show 4 * k + 1 < N from by omega) (by omega)) dL_law_654 ?_
  refine lv_aload_n hx hb dL_law_655 rfl (lv_at hl 3 rfl) ?_
  obtain ⟨⟨⟨hkx, hkm, hkq, hkO, hkS, hkC, hkT⟩, ⟨hR, hO, hS9, hC, hT⟩, ⟨htM, htb⟩, lc, eC, nC, mC, cf, lt, eT, nT, mT, tf, hMo, hCo, hTh⟩, a0, a1, a2, a3, a4, a5, a6, a7⟩ := id hJ
  refine z_xi hI (vx_runSX (As := [.ref px, .int (xs (nI (4 * k + 1)).toNatClampNeg), .ref po]) (rest := []) ⟨hx, hb, hml, hown, hts⟩ (c_L_sleep l hnt D tc z0 _ κ g _ px hkx (xs (nI (4 * k + 1)).toNatClampNeg) po hko aC hC) (vx_cwSW 3 hts gL_law_L_sleep rfl rfl rfl (by decide +kernel) ⟨Nat.le_of_ble_eq_true rfl, Nat.le_of_ble_eq_true rfl⟩) (z_pre (Xc := []) hK hE hI [] rfl rfl) rfl rfl hl.1 rfl (lv_room (Nat.le_of_ble_eq_true rfl)) dL_law_656 ⟨(show 60 + 20 * k + 37 * t + 1 ≤ 841393 from by omega), (show 400 + 120 * k + 162 * t + 6 ≤ 6571924 from by omega)⟩) (fun E ce q9 u H locs hw hI he1 he2 he3 => hw.elim) (fun v u H locs hw hI => ?_)
  obtain ⟨L1, κ1, g1⟩ := u
  have hI : zI D tc (zA [] [] s.heap.size) s.heap [] L1 κ1 g1 H locs := hI
  have hJ : zJ κ1 g1 z0 px pm rq co sp aC aT t ∧ κ1 po = 29 ∧ κ1 pd = 30 := by
    rcases hw with ⟨_, r1, u1, v9, hp, hv9, hu⟩ | ⟨_, hp⟩
    · cases hu
      obtain ⟨_, hp⟩ := hp
      cases hp
      exact ⟨hJ.up hko (by decide), hko, hkd⟩
    · obtain ⟨_, hp⟩ := hp
      cases hp
      exact ⟨hJ, hko, hkd⟩
  obtain ⟨hJ, hko, hkd⟩ := hJ
  clear hw
  obtain ⟨L, rfl⟩ : ∃ x, x = L1 := ⟨_, rfl⟩
  obtain ⟨κ, rfl⟩ : ∃ x, x = κ1 := ⟨_, rfl⟩
  obtain ⟨g, rfl⟩ : ∃ x, x = g1 := ⟨_, rfl⟩
  refine lv_istore (lv' := [(6, .int v), (0, .ref b), (1, .ref px), (2, .ref pm), (3, .ref po), (4, .ref pd), (5, .int (nI (4 * k)))]) hx hb dL_law_659 hl (by decide) rfl (fun ls hl => ?_)
  refine lv_aload_n hx hb dL_law_661 rfl (lv_at hl 3 rfl) ?_
  refine lv_aload_n hx hb dL_law_662 rfl (lv_at hl 1 rfl) ?_
  refine lv_iload hx hb dL_law_663 (lv_at hl 6 rfl) ?_
  refine lv_iconst (v := 1) hx hb dL_law_665 (by decide) ?_
  refine lv_iadd hx hb dL_law_666 ?_
  rw [show nI (4 * k) + 1 = nI (4 * k + 1) from nI_add _ _]
  refine va_sld hx hb hX hbl hbA hI.2.1 (vp_in_nI (show 4 * k + 1 < N from by omega) (by omega)) dL_law_667 ?_
  obtain ⟨⟨⟨hkx, hkm, hkq, hkO, hkS, hkC, hkT⟩, ⟨hR, hO, hS9, hC, hT⟩, ⟨htM, htb⟩, lc, eC, nC, mC, cf, lt, eT, nT, mT, tf, hMo, hCo, hTh⟩, a0, a1, a2, a3, a4, a5, a6, a7⟩ := id hJ
  refine z_ci hI (va_runV (As := [.int (xs (nI (4 * k + 1)).toNatClampNeg)]) (rest := []) ⟨hx, hb, hml, hown, hts⟩ (c_X11_sleep l D tc z0 _ κ g _ pm hkm (xs (nI (4 * k + 1)).toNatClampNeg) lc eC nC mC cf lt eT nT mT tf hMo ) (cwV 1 hts gL_law_X11_sleep rfl rfl rfl (by decide +kernel) ⟨Nat.le_of_ble_eq_true rfl, Nat.le_of_ble_eq_true rfl⟩) (z_preV (Xc := []) hK hE hI [] rfl rfl (z_recv hK hI hkm rfl rfl)) rfl rfl hl.1 rfl (lv_room (Nat.le_of_ble_eq_true rfl)) dL_law_668 ⟨(show 60 + 20 * k + 37 * t + 1 + 0 ≤ 841393 from by omega), (show 400 + 120 * k + 162 * t + 6 + 0 ≤ 6571924 from by omega)⟩) (fun w u H locs hw hI => ?_)
  obtain ⟨x9, rfl⟩ := hw
  have hJ := hJ.upM (j := 12) (v := .int x9) (by decide)
  have hI : zI D tc (zA [] [] s.heap.size) s.heap [] L κ (zup g pm 12 (.int x9)) H locs := hI
  generalize (zup g pm 12 (.int x9)) = g at hI hJ
  refine lv_istore (lv' := [(7, .int w), (6, .int v), (0, .ref b), (1, .ref px), (2, .ref pm), (3, .ref po), (4, .ref pd), (5, .int (nI (4 * k)))]) hx hb dL_law_671 hl (by decide) rfl (fun ls hl => ?_)
  refine lv_goto (tgt := 1392) hx hb dL_law_673 (by decide) ?_
  have hl := lv_sub hl [2, 3, 4, 5, 6, 7] (l' := [(0, .ref b), (1, .ref px), (2, .ref pm), (3, .ref po), (4, .ref pd), (5, .int (nI (4 * k)))]) rfl
  refine W.widen (k := 60 + 20 * (k + 1) + 37 * t) (n := 400 + 120 * (k + 1) + 162 * t) (by omega) (by omega) ?_
  refine W.base ?_
  exact hN s.drawn L κ g _ _ _ _ (Drawn.sameBut.refl _ _) hJ hko hkd hI hl

set_option maxHeartbeats 4000000 in
set_option maxRecDepth 100000 in
theorem k_isBusy (l : Launch) (hnt : l.stackTraces = false) {p : Program} {e : Env} {s : State} {m : MethodId} {below : List Frame} {meth : Method} {c : Code} {H : Heap} {locs : List Loc} {Q : State → Prop} {D : va_G} {tc : Nat → ClassId} {z0 b N : Nat} {xs : Nat → Int32} {px pm po pd rq co sp aC aT t k : Nat} {L : List Nat} {κ : Nat → Nat} {g : Nat → Nat → Value} {ls : Array Slot} (C : lwC p s m meth c b N xs D tc z0) (hk : 4 * k + 4 ≤ N) (hN8 : N ≤ 2048) (hJ : zJ κ g z0 px pm rq co sp aC aT t) (hko : κ po = 29) (hkd : κ pd = 30) (hI : zI D tc (zA [] [] s.heap.size) s.heap [] L κ g H locs) (hl : lv_has ls 9 [(0, .ref b), (1, .ref px), (2, .ref pm), (3, .ref po), (4, .ref pd), (5, .int (nI (4 * k)))]) (hN : lwN p l e s m below meth c b D tc z0 px pm po pd rq co sp aC aT k Q) : W p l e room_1 s m #[Value.ref b] below meth c H locs (60 + 20 * k + 37 * t) (400 + 120 * k + 162 * t) Q (F0 m 676 ls []) := by
  obtain ⟨hx, hb, hml, hown, hts, hK, hE, hX, hbl⟩ := C
  have hbA : ¬ zA [] [] s.heap.size b := fun q => by rcases q with q | q | q; exact absurd q List.not_mem_nil; exact absurd q List.not_mem_nil; exact absurd hbl (Nat.not_lt.mpr q)
  have htb9 : t ≤ 9999 := hJ.1.2.2.1.2
  refine lv_aload_n hx hb dL_law_676 rfl (lv_at hl 1 rfl) ?_
  refine lv_aload_n hx hb dL_law_677 rfl (lv_at hl 0 rfl) ?_
  refine lv_iload hx hb dL_law_678 (lv_at hl 5 rfl) ?_
  refine lv_iconst (v := 1) hx hb dL_law_680 (by decide) ?_
  refine lv_iadd hx hb dL_law_681 ?_
  rw [show nI (4 * k) + 1 = nI (4 * k + 1) from nI_add _ _]
  refine va_sld hx hb hX hbl hbA hI.2.1 (vp_in_nI (show 4 * k + 1 < N from by omega) (by omega)) dL_law_682 ?_
  refine lv_aload_n hx hb dL_law_683 rfl (lv_at hl 3 rfl) ?_
  obtain ⟨⟨⟨hkx, hkm, hkq, hkO, hkS, hkC, hkT⟩, ⟨hR, hO, hS9, hC, hT⟩, ⟨htM, htb⟩, lc, eC, nC, mC, cf, lt, eT, nT, mT, tf, hMo, hCo, hTh⟩, a0, a1, a2, a3, a4, a5, a6, a7⟩ := id hJ
  refine z_xi hI (vx_runSX (As := [.ref px, .int (xs (nI (4 * k + 1)).toNatClampNeg), .ref po]) (rest := []) ⟨hx, hb, hml, hown, hts⟩ (c_L_isBusy l hnt D tc z0 _ κ g _ px hkx (xs (nI (4 * k + 1)).toNatClampNeg) po hko aC hC) (vx_cwSW 3 hts gL_law_L_isBusy rfl rfl rfl (by decide +kernel) ⟨Nat.le_of_ble_eq_true rfl, Nat.le_of_ble_eq_true rfl⟩) (z_pre (Xc := []) hK hE hI [] rfl rfl) rfl rfl hl.1 rfl (lv_room (Nat.le_of_ble_eq_true rfl)) dL_law_684 ⟨(show 60 + 20 * k + 37 * t + 1 ≤ 841393 from by omega), (show 400 + 120 * k + 162 * t + 6 ≤ 6571924 from by omega)⟩) (fun E ce q9 u H locs hw hI he1 he2 he3 => hw.elim) (fun v u H locs hw hI => ?_)
  obtain ⟨L1, κ1, g1⟩ := u
  have hI : zI D tc (zA [] [] s.heap.size) s.heap [] L1 κ1 g1 H locs := hI
  have hJ : zJ κ1 g1 z0 px pm rq co sp aC aT t ∧ κ1 po = 29 ∧ κ1 pd = 30 := by
    rcases hw with ⟨_, r1, u1, v9, hp, hv9, hu⟩ | ⟨_, hp⟩
    · cases hu
      obtain ⟨_, hp⟩ := hp
      cases hp
      exact ⟨hJ.up hko (by decide), hko, hkd⟩
    · obtain ⟨_, hp⟩ := hp
      cases hp
      exact ⟨hJ, hko, hkd⟩
  obtain ⟨hJ, hko, hkd⟩ := hJ
  clear hw
  obtain ⟨L, rfl⟩ : ∃ x, x = L1 := ⟨_, rfl⟩
  obtain ⟨κ, rfl⟩ : ∃ x, x = κ1 := ⟨_, rfl⟩
  obtain ⟨g, rfl⟩ : ∃ x, x = g1 := ⟨_, rfl⟩
  refine lv_istore (lv' := [(6, .int v), (0, .ref b), (1, .ref px), (2, .ref pm), (3, .ref po), (4, .ref pd), (5, .int (nI (4 * k)))]) hx hb dL_law_687 hl (by decide) rfl (fun ls hl => ?_)
  refine lv_aload_n hx hb dL_law_689 rfl (lv_at hl 3 rfl) ?_
  refine lv_aload_n hx hb dL_law_690 rfl (lv_at hl 1 rfl) ?_
  refine lv_iload hx hb dL_law_691 (lv_at hl 6 rfl) ?_
  refine lv_iconst (v := 1) hx hb dL_law_693 (by decide) ?_
  refine lv_iadd hx hb dL_law_694 ?_
  rw [show nI (4 * k) + 1 = nI (4 * k + 1) from nI_add _ _]
  refine va_sld hx hb hX hbl hbA hI.2.1 (vp_in_nI (show 4 * k + 1 < N from by omega) (by omega)) dL_law_695 ?_
  obtain ⟨⟨⟨hkx, hkm, hkq, hkO, hkS, hkC, hkT⟩, ⟨hR, hO, hS9, hC, hT⟩, ⟨htM, htb⟩, lc, eC, nC, mC, cf, lt, eT, nT, mT, tf, hMo, hCo, hTh⟩, a0, a1, a2, a3, a4, a5, a6, a7⟩ := id hJ
  refine z_ci hI (va_runV (As := [.int (xs (nI (4 * k + 1)).toNatClampNeg)]) (rest := []) ⟨hx, hb, hml, hown, hts⟩ (c_X11_isBusy l D tc z0 _ κ g _ pm hkm (xs (nI (4 * k + 1)).toNatClampNeg) lc eC nC mC cf lt eT nT mT tf hMo ) (cwV 1 hts gL_law_X11_isBusy rfl rfl rfl (by decide +kernel) ⟨Nat.le_of_ble_eq_true rfl, Nat.le_of_ble_eq_true rfl⟩) (z_preV (Xc := []) hK hE hI [] rfl rfl (z_recv hK hI hkm rfl rfl)) rfl rfl hl.1 rfl (lv_room (Nat.le_of_ble_eq_true rfl)) dL_law_696 ⟨(show 60 + 20 * k + 37 * t + 1 + 1 ≤ 841393 from by omega), (show 400 + 120 * k + 162 * t + 6 + 4 ≤ 6571924 from by omega)⟩) (fun w u H locs hw hI => ?_)
  obtain ⟨x9, rfl⟩ := hw
  have hJ := hJ.upM (j := 12) (v := .int x9) (by decide)
  have hI : zI D tc (zA [] [] s.heap.size) s.heap [] L κ (zup g pm 12 (.int x9)) H locs := hI
  generalize (zup g pm 12 (.int x9)) = g at hI hJ
  refine lv_istore (lv' := [(7, .int w), (6, .int v), (0, .ref b), (1, .ref px), (2, .ref pm), (3, .ref po), (4, .ref pd), (5, .int (nI (4 * k)))]) hx hb dL_law_699 hl (by decide) rfl (fun ls hl => ?_)
  refine lv_goto (tgt := 1392) hx hb dL_law_701 (by decide) ?_
  have hl := lv_sub hl [2, 3, 4, 5, 6, 7] (l' := [(0, .ref b), (1, .ref px), (2, .ref pm), (3, .ref po), (4, .ref pd), (5, .int (nI (4 * k)))]) rfl
  refine W.widen (k := 60 + 20 * (k + 1) + 37 * t) (n := 400 + 120 * (k + 1) + 162 * t) (by omega) (by omega) ?_
  refine W.base ?_
  exact hN s.drawn L κ g _ _ _ _ (Drawn.sameBut.refl _ _) hJ hko hkd hI hl

set_option maxHeartbeats 4000000 in
set_option maxRecDepth 100000 in
theorem k_need (l : Launch) (hnt : l.stackTraces = false) {p : Program} {e : Env} {s : State} {m : MethodId} {below : List Frame} {meth : Method} {c : Code} {H : Heap} {locs : List Loc} {Q : State → Prop} {D : va_G} {tc : Nat → ClassId} {z0 b N : Nat} {xs : Nat → Int32} {px pm po pd rq co sp aC aT t k : Nat} {L : List Nat} {κ : Nat → Nat} {g : Nat → Nat → Value} {ls : Array Slot} (C : lwC p s m meth c b N xs D tc z0) (hk : 4 * k + 4 ≤ N) (hN8 : N ≤ 2048) (hJ : zJ κ g z0 px pm rq co sp aC aT t) (hko : κ po = 29) (hkd : κ pd = 30) (hI : zI D tc (zA [] [] s.heap.size) s.heap [] L κ g H locs) (hl : lv_has ls 9 [(0, .ref b), (1, .ref px), (2, .ref pm), (3, .ref po), (4, .ref pd), (5, .int (nI (4 * k)))]) (hN : lwN p l e s m below meth c b D tc z0 px pm po pd rq co sp aC aT k Q) : W p l e room_1 s m #[Value.ref b] below meth c H locs (60 + 20 * k + 37 * t) (400 + 120 * k + 162 * t) Q (F0 m 704 ls []) := by
  obtain ⟨hx, hb, hml, hown, hts, hK, hE, hX, hbl⟩ := C
  have hbA : ¬ zA [] [] s.heap.size b := fun q => by rcases q with q | q | q; exact absurd q List.not_mem_nil; exact absurd q List.not_mem_nil; exact absurd hbl (Nat.not_lt.mpr q)
  have htb9 : t ≤ 9999 := hJ.1.2.2.1.2
  refine lv_aload_n hx hb dL_law_704 rfl (lv_at hl 1 rfl) ?_
  refine lv_aload_n hx hb dL_law_705 rfl (lv_at hl 0 rfl) ?_
  refine lv_iload hx hb dL_law_706 (lv_at hl 5 rfl) ?_
  refine lv_iconst (v := 1) hx hb dL_law_708 (by decide) ?_
  refine lv_iadd hx hb dL_law_709 ?_
  rw [show nI (4 * k) + 1 = nI (4 * k + 1) from nI_add _ _]
  refine va_sld hx hb hX hbl hbA hI.2.1 (vp_in_nI (show 4 * k + 1 < N from by omega) (by omega)) dL_law_710 ?_
  refine lv_aload_n hx hb dL_law_711 rfl (lv_at hl 0 rfl) ?_
  refine lv_iload hx hb dL_law_712 (lv_at hl 5 rfl) ?_
  refine lv_iconst (v := 2) hx hb dL_law_714 (by decide) ?_
  refine lv_iadd hx hb dL_law_715 ?_
  rw [show nI (4 * k) + 2 = nI (4 * k + 2) from nI_add _ _]
  refine va_sld hx hb hX hbl hbA hI.2.1 (vp_in_nI (show 4 * k + 2 < N from by omega) (by omega)) dL_law_716 ?_
  refine lv_aload_n hx hb dL_law_717 rfl (lv_at hl 3 rfl) ?_
  obtain ⟨⟨⟨hkx, hkm, hkq, hkO, hkS, hkC, hkT⟩, ⟨hR, hO, hS9, hC, hT⟩, ⟨htM, htb⟩, lc, eC, nC, mC, cf, lt, eT, nT, mT, tf, hMo, hCo, hTh⟩, a0, a1, a2, a3, a4, a5, a6, a7⟩ := id hJ
  refine z_xi hI (vx_runSX (As := [.ref px, .int (xs (nI (4 * k + 1)).toNatClampNeg), .int (xs (nI (4 * k + 2)).toNatClampNeg), .ref po]) (rest := []) ⟨hx, hb, hml, hown, hts⟩ (c_L_need l hnt D tc z0 _ κ g _ px hkx (xs (nI (4 * k + 1)).toNatClampNeg) (xs (nI (4 * k + 2)).toNatClampNeg) po hko aC hC) (vx_cwSW 4 hts gL_law_L_need rfl rfl rfl (by decide +kernel) ⟨Nat.le_of_ble_eq_true rfl, Nat.le_of_ble_eq_true rfl⟩) (z_pre (Xc := []) hK hE hI [] rfl rfl) rfl rfl hl.1 rfl (lv_room (Nat.le_of_ble_eq_true rfl)) dL_law_718 ⟨(show 60 + 20 * k + 37 * t + 2 ≤ 841393 from by omega), (show 400 + 120 * k + 162 * t + 12 ≤ 6571924 from by omega)⟩) (fun E ce q9 u H locs hw hI he1 he2 he3 => hw.elim) (fun v u H locs hw hI => ?_)
  obtain ⟨L1, κ1, g1⟩ := u
  have hI : zI D tc (zA [] [] s.heap.size) s.heap [] L1 κ1 g1 H locs := hI
  have hJ : zJ κ1 g1 z0 px pm rq co sp aC aT t ∧ κ1 po = 29 ∧ κ1 pd = 30 := by
    rcases hw with ⟨_, r1, u1, v9, hp, hv9, hu⟩ | ⟨_, hp⟩ | ⟨_, hp⟩
    · cases hu
      obtain ⟨_, hp⟩ := hp
      cases hp
      exact ⟨hJ.up hko (by decide), hko, hkd⟩
    · obtain ⟨_, hp⟩ := hp
      cases hp
      exact ⟨hJ, hko, hkd⟩
    · obtain ⟨_, hp⟩ := hp
      cases hp
      exact ⟨hJ, hko, hkd⟩
  obtain ⟨hJ, hko, hkd⟩ := hJ
  clear hw
  obtain ⟨L, rfl⟩ : ∃ x, x = L1 := ⟨_, rfl⟩
  obtain ⟨κ, rfl⟩ : ∃ x, x = κ1 := ⟨_, rfl⟩
  obtain ⟨g, rfl⟩ : ∃ x, x = g1 := ⟨_, rfl⟩
  refine lv_istore (lv' := [(6, .int v), (0, .ref b), (1, .ref px), (2, .ref pm), (3, .ref po), (4, .ref pd), (5, .int (nI (4 * k)))]) hx hb dL_law_721 hl (by decide) rfl (fun ls hl => ?_)
  refine lv_aload_n hx hb dL_law_723 rfl (lv_at hl 3 rfl) ?_
  refine lv_aload_n hx hb dL_law_724 rfl (lv_at hl 1 rfl) ?_
  refine lv_iload hx hb dL_law_725 (lv_at hl 6 rfl) ?_
  refine lv_iconst (v := 1) hx hb dL_law_727 (by decide) ?_
  refine lv_iadd hx hb dL_law_728 ?_
  rw [show nI (4 * k) + 1 = nI (4 * k + 1) from nI_add _ _]
  refine va_sld hx hb hX hbl hbA hI.2.1 (vp_in_nI (show 4 * k + 1 < N from by omega) (by omega)) dL_law_729 ?_
  refine lv_aload_n hx hb dL_law_730 rfl (lv_at hl 1 rfl) ?_
  refine lv_iload hx hb dL_law_731 (lv_at hl 6 rfl) ?_
  refine lv_iconst (v := 2) hx hb dL_law_733 (by decide) ?_
  refine lv_iadd hx hb dL_law_734 ?_
  rw [show nI (4 * k) + 2 = nI (4 * k + 2) from nI_add _ _]
  refine va_sld hx hb hX hbl hbA hI.2.1 (vp_in_nI (show 4 * k + 2 < N from by omega) (by omega)) dL_law_735 ?_
  obtain ⟨⟨⟨hkx, hkm, hkq, hkO, hkS, hkC, hkT⟩, ⟨hR, hO, hS9, hC, hT⟩, ⟨htM, htb⟩, lc, eC, nC, mC, cf, lt, eT, nT, mT, tf, hMo, hCo, hTh⟩, a0, a1, a2, a3, a4, a5, a6, a7⟩ := id hJ
  refine z_ci hI (va_runV (As := [.int (xs (nI (4 * k + 1)).toNatClampNeg), .int (xs (nI (4 * k + 2)).toNatClampNeg)]) (rest := []) ⟨hx, hb, hml, hown, hts⟩ (c_X11_need l D tc z0 _ κ g _ pm hkm (xs (nI (4 * k + 1)).toNatClampNeg) (xs (nI (4 * k + 2)).toNatClampNeg) lc eC nC mC cf lt eT nT mT tf hMo ) (cwV 2 hts gL_law_X11_need rfl rfl rfl (by decide +kernel) ⟨Nat.le_of_ble_eq_true rfl, Nat.le_of_ble_eq_true rfl⟩) (z_preV (Xc := []) hK hE hI [] rfl rfl (z_recv hK hI hkm rfl rfl)) rfl rfl hl.1 rfl (lv_room (Nat.le_of_ble_eq_true rfl)) dL_law_736 ⟨(show 60 + 20 * k + 37 * t + 2 + 0 ≤ 841393 from by omega), (show 400 + 120 * k + 162 * t + 12 + 0 ≤ 6571924 from by omega)⟩) (fun w u H locs hw hI => ?_)
  obtain ⟨x9, rfl⟩ := hw
  have hJ := hJ.upM (j := 12) (v := .int x9) (by decide)
  have hI : zI D tc (zA [] [] s.heap.size) s.heap [] L κ (zup g pm 12 (.int x9)) H locs := hI
  generalize (zup g pm 12 (.int x9)) = g at hI hJ
  refine lv_istore (lv' := [(7, .int w), (6, .int v), (0, .ref b), (1, .ref px), (2, .ref pm), (3, .ref po), (4, .ref pd), (5, .int (nI (4 * k)))]) hx hb dL_law_739 hl (by decide) rfl (fun ls hl => ?_)
  refine lv_goto (tgt := 1392) hx hb dL_law_741 (by decide) ?_
  have hl := lv_sub hl [2, 3, 4, 5, 6, 7] (l' := [(0, .ref b), (1, .ref px), (2, .ref pm), (3, .ref po), (4, .ref pd), (5, .int (nI (4 * k)))]) rfl
  refine W.widen (k := 60 + 20 * (k + 1) + 37 * t) (n := 400 + 120 * (k + 1) + 162 * t) (by omega) (by omega) ?_
  refine W.base ?_
  exact hN s.drawn L κ g _ _ _ _ (Drawn.sameBut.refl _ _) hJ hko hkd hI hl

set_option maxHeartbeats 4000000 in
set_option maxRecDepth 100000 in
theorem k_volts (l : Launch) (hnt : l.stackTraces = false) {p : Program} {e : Env} {s : State} {m : MethodId} {below : List Frame} {meth : Method} {c : Code} {H : Heap} {locs : List Loc} {Q : State → Prop} {D : va_G} {tc : Nat → ClassId} {z0 b N : Nat} {xs : Nat → Int32} {px pm po pd rq co sp aC aT t k : Nat} {L : List Nat} {κ : Nat → Nat} {g : Nat → Nat → Value} {ls : Array Slot} (C : lwC p s m meth c b N xs D tc z0) (hk : 4 * k + 4 ≤ N) (hN8 : N ≤ 2048) (hJ : zJ κ g z0 px pm rq co sp aC aT t) (hko : κ po = 29) (hkd : κ pd = 30) (hI : zI D tc (zA [] [] s.heap.size) s.heap [] L κ g H locs) (hl : lv_has ls 9 [(0, .ref b), (1, .ref px), (2, .ref pm), (3, .ref po), (4, .ref pd), (5, .int (nI (4 * k)))]) (hN : lwN p l e s m below meth c b D tc z0 px pm po pd rq co sp aC aT k Q) : W p l e room_1 s m #[Value.ref b] below meth c H locs (60 + 20 * k + 37 * t) (400 + 120 * k + 162 * t) Q (F0 m 744 ls []) := by
  obtain ⟨hx, hb, hml, hown, hts, hK, hE, hX, hbl⟩ := C
  have hbA : ¬ zA [] [] s.heap.size b := fun q => by rcases q with q | q | q; exact absurd q List.not_mem_nil; exact absurd q List.not_mem_nil; exact absurd hbl (Nat.not_lt.mpr q)
  have htb9 : t ≤ 9999 := hJ.1.2.2.1.2
  refine lv_aload_n hx hb dL_law_744 rfl (lv_at hl 1 rfl) ?_
  refine lv_aload_n hx hb dL_law_745 rfl (lv_at hl 0 rfl) ?_
  refine lv_iload hx hb dL_law_746 (lv_at hl 5 rfl) ?_
  refine lv_iconst (v := 1) hx hb dL_law_748 (by decide) ?_
  refine lv_iadd hx hb dL_law_749 ?_
  rw [show nI (4 * k) + 1 = nI (4 * k + 1) from nI_add _ _]
  refine va_sld hx hb hX hbl hbA hI.2.1 (vp_in_nI (show 4 * k + 1 < N from by omega) (by omega)) dL_law_750 ?_
  refine lv_aload_n hx hb dL_law_751 rfl (lv_at hl 3 rfl) ?_
  obtain ⟨⟨⟨hkx, hkm, hkq, hkO, hkS, hkC, hkT⟩, ⟨hR, hO, hS9, hC, hT⟩, ⟨htM, htb⟩, lc, eC, nC, mC, cf, lt, eT, nT, mT, tf, hMo, hCo, hTh⟩, a0, a1, a2, a3, a4, a5, a6, a7⟩ := id hJ
  refine z_xi hI (vx_runSX (As := [.ref px, .int (xs (nI (4 * k + 1)).toNatClampNeg), .ref po]) (rest := []) ⟨hx, hb, hml, hown, hts⟩ (c_L_volts l hnt D tc z0 _ κ g _ px hkx (xs (nI (4 * k + 1)).toNatClampNeg) po hko ) (vx_cwSW 3 hts gL_law_L_volts rfl rfl rfl (by decide +kernel) ⟨Nat.le_of_ble_eq_true rfl, Nat.le_of_ble_eq_true rfl⟩) (z_pre (Xc := []) hK hE hI [] rfl rfl) rfl rfl hl.1 rfl (lv_room (Nat.le_of_ble_eq_true rfl)) dL_law_752 ⟨(show 60 + 20 * k + 37 * t + 1 ≤ 841393 from by omega), (show 400 + 120 * k + 162 * t + 6 ≤ 6571924 from by omega)⟩) (fun E ce q9 u H locs hw hI he1 he2 he3 => hw.elim) (fun v u H locs hw hI => ?_)
  obtain ⟨L1, κ1, g1⟩ := u
  have hI : zI D tc (zA [] [] s.heap.size) s.heap [] L1 κ1 g1 H locs := hI
  have hJ : zJ κ1 g1 z0 px pm rq co sp aC aT t ∧ κ1 po = 29 ∧ κ1 pd = 30 := by
    rcases hw with ⟨_, r1, u1, v9, hp, hv9, hu⟩ | ⟨_, hp⟩
    · cases hu
      obtain ⟨_, hp⟩ := hp
      cases hp
      exact ⟨hJ.up hko (by decide), hko, hkd⟩
    · obtain ⟨_, hp⟩ := hp
      cases hp
      exact ⟨hJ, hko, hkd⟩
  obtain ⟨hJ, hko, hkd⟩ := hJ
  clear hw
  obtain ⟨L, rfl⟩ : ∃ x, x = L1 := ⟨_, rfl⟩
  obtain ⟨κ, rfl⟩ : ∃ x, x = κ1 := ⟨_, rfl⟩
  obtain ⟨g, rfl⟩ : ∃ x, x = g1 := ⟨_, rfl⟩
  refine lv_istore (lv' := [(6, .int v), (0, .ref b), (1, .ref px), (2, .ref pm), (3, .ref po), (4, .ref pd), (5, .int (nI (4 * k)))]) hx hb dL_law_755 hl (by decide) rfl (fun ls hl => ?_)
  refine lv_aload_n hx hb dL_law_757 rfl (lv_at hl 3 rfl) ?_
  refine lv_aload_n hx hb dL_law_758 rfl (lv_at hl 1 rfl) ?_
  refine lv_iload hx hb dL_law_759 (lv_at hl 6 rfl) ?_
  refine lv_iconst (v := 1) hx hb dL_law_761 (by decide) ?_
  refine lv_iadd hx hb dL_law_762 ?_
  rw [show nI (4 * k) + 1 = nI (4 * k + 1) from nI_add _ _]
  refine va_sld hx hb hX hbl hbA hI.2.1 (vp_in_nI (show 4 * k + 1 < N from by omega) (by omega)) dL_law_763 ?_
  obtain ⟨⟨⟨hkx, hkm, hkq, hkO, hkS, hkC, hkT⟩, ⟨hR, hO, hS9, hC, hT⟩, ⟨htM, htb⟩, lc, eC, nC, mC, cf, lt, eT, nT, mT, tf, hMo, hCo, hTh⟩, a0, a1, a2, a3, a4, a5, a6, a7⟩ := id hJ
  refine z_ci hI (va_runV (As := [.int (xs (nI (4 * k + 1)).toNatClampNeg)]) (rest := []) ⟨hx, hb, hml, hown, hts⟩ (c_X11_volts l D tc z0 _ κ g _ pm hkm (xs (nI (4 * k + 1)).toNatClampNeg)  ) (cwV 1 hts gL_law_X11_volts rfl rfl rfl (by decide +kernel) ⟨Nat.le_of_ble_eq_true rfl, Nat.le_of_ble_eq_true rfl⟩) (z_preV (Xc := []) hK hE hI [] rfl rfl (z_recv hK hI hkm rfl rfl)) rfl rfl hl.1 rfl (lv_room (Nat.le_of_ble_eq_true rfl)) dL_law_764 ⟨(show 60 + 20 * k + 37 * t + 1 + 0 ≤ 841393 from by omega), (show 400 + 120 * k + 162 * t + 6 + 0 ≤ 6571924 from by omega)⟩) (fun w u H locs hw hI => ?_)
  obtain ⟨x9, rfl⟩ := hw
  have hJ := hJ.upM (j := 12) (v := .int x9) (by decide)
  have hI : zI D tc (zA [] [] s.heap.size) s.heap [] L κ (zup g pm 12 (.int x9)) H locs := hI
  generalize (zup g pm 12 (.int x9)) = g at hI hJ
  refine lv_istore (lv' := [(7, .int w), (6, .int v), (0, .ref b), (1, .ref px), (2, .ref pm), (3, .ref po), (4, .ref pd), (5, .int (nI (4 * k)))]) hx hb dL_law_767 hl (by decide) rfl (fun ls hl => ?_)
  refine lv_goto (tgt := 1392) hx hb dL_law_769 (by decide) ?_
  have hl := lv_sub hl [2, 3, 4, 5, 6, 7] (l' := [(0, .ref b), (1, .ref px), (2, .ref pm), (3, .ref po), (4, .ref pd), (5, .int (nI (4 * k)))]) rfl
  refine W.widen (k := 60 + 20 * (k + 1) + 37 * t) (n := 400 + 120 * (k + 1) + 162 * t) (by omega) (by omega) ?_
  refine W.base ?_
  exact hN s.drawn L κ g _ _ _ _ (Drawn.sameBut.refl _ _) hJ hko hkd hI hl

set_option maxHeartbeats 4000000 in
set_option maxRecDepth 100000 in
theorem k_heat (l : Launch) (hnt : l.stackTraces = false) {p : Program} {e : Env} {s : State} {m : MethodId} {below : List Frame} {meth : Method} {c : Code} {H : Heap} {locs : List Loc} {Q : State → Prop} {D : va_G} {tc : Nat → ClassId} {z0 b N : Nat} {xs : Nat → Int32} {px pm po pd rq co sp aC aT t k : Nat} {L : List Nat} {κ : Nat → Nat} {g : Nat → Nat → Value} {ls : Array Slot} (C : lwC p s m meth c b N xs D tc z0) (hk : 4 * k + 4 ≤ N) (hN8 : N ≤ 2048) (hJ : zJ κ g z0 px pm rq co sp aC aT t) (hko : κ po = 29) (hkd : κ pd = 30) (hI : zI D tc (zA [] [] s.heap.size) s.heap [] L κ g H locs) (hl : lv_has ls 9 [(0, .ref b), (1, .ref px), (2, .ref pm), (3, .ref po), (4, .ref pd), (5, .int (nI (4 * k)))]) (hN : lwN p l e s m below meth c b D tc z0 px pm po pd rq co sp aC aT k Q) : W p l e room_1 s m #[Value.ref b] below meth c H locs (60 + 20 * k + 37 * t) (400 + 120 * k + 162 * t) Q (F0 m 772 ls []) := by
  obtain ⟨hx, hb, hml, hown, hts, hK, hE, hX, hbl⟩ := C
  have hbA : ¬ zA [] [] s.heap.size b := fun q => by rcases q with q | q | q; exact absurd q List.not_mem_nil; exact absurd q List.not_mem_nil; exact absurd hbl (Nat.not_lt.mpr q)
  have htb9 : t ≤ 9999 := hJ.1.2.2.1.2
  refine lv_aload_n hx hb dL_law_772 rfl (lv_at hl 1 rfl) ?_
  refine lv_aload_n hx hb dL_law_773 rfl (lv_at hl 0 rfl) ?_
  refine lv_iload hx hb dL_law_774 (lv_at hl 5 rfl) ?_
  refine lv_iconst (v := 1) hx hb dL_law_776 (by decide) ?_
  refine lv_iadd hx hb dL_law_777 ?_
  rw [show nI (4 * k) + 1 = nI (4 * k + 1) from nI_add _ _]
  refine va_sld hx hb hX hbl hbA hI.2.1 (vp_in_nI (show 4 * k + 1 < N from by omega) (by omega)) dL_law_778 ?_
  refine lv_aload_n hx hb dL_law_779 rfl (lv_at hl 3 rfl) ?_
  obtain ⟨⟨⟨hkx, hkm, hkq, hkO, hkS, hkC, hkT⟩, ⟨hR, hO, hS9, hC, hT⟩, ⟨htM, htb⟩, lc, eC, nC, mC, cf, lt, eT, nT, mT, tf, hMo, hCo, hTh⟩, a0, a1, a2, a3, a4, a5, a6, a7⟩ := id hJ
  refine z_xi hI (vx_runSX (As := [.ref px, .int (xs (nI (4 * k + 1)).toNatClampNeg), .ref po]) (rest := []) ⟨hx, hb, hml, hown, hts⟩ (c_L_heat l hnt D tc z0 _ κ g _ px hkx (xs (nI (4 * k + 1)).toNatClampNeg) po hko aC hC) (vx_cwSW 3 hts gL_law_L_heat rfl rfl rfl (by decide +kernel) ⟨Nat.le_of_ble_eq_true rfl, Nat.le_of_ble_eq_true rfl⟩) (z_pre (Xc := []) hK hE hI [] rfl rfl) rfl rfl hl.1 rfl (lv_room (Nat.le_of_ble_eq_true rfl)) dL_law_780 ⟨(show 60 + 20 * k + 37 * t + 1 ≤ 841393 from by omega), (show 400 + 120 * k + 162 * t + 6 ≤ 6571924 from by omega)⟩) (fun E ce q9 u H locs hw hI he1 he2 he3 => hw.elim) (fun v u H locs hw hI => ?_)
  obtain ⟨L1, κ1, g1⟩ := u
  have hI : zI D tc (zA [] [] s.heap.size) s.heap [] L1 κ1 g1 H locs := hI
  have hJ : zJ κ1 g1 z0 px pm rq co sp aC aT t ∧ κ1 po = 29 ∧ κ1 pd = 30 := by
    rcases hw with ⟨_, r1, u1, v9, hp, hv9, hu⟩ | ⟨_, hp⟩
    · cases hu
      obtain ⟨_, hp⟩ := hp
      cases hp
      exact ⟨hJ.up hko (by decide), hko, hkd⟩
    · obtain ⟨_, hp⟩ := hp
      cases hp
      exact ⟨hJ, hko, hkd⟩
  obtain ⟨hJ, hko, hkd⟩ := hJ
  clear hw
  obtain ⟨L, rfl⟩ : ∃ x, x = L1 := ⟨_, rfl⟩
  obtain ⟨κ, rfl⟩ : ∃ x, x = κ1 := ⟨_, rfl⟩
  obtain ⟨g, rfl⟩ : ∃ x, x = g1 := ⟨_, rfl⟩
  refine lv_istore (lv' := [(6, .int v), (0, .ref b), (1, .ref px), (2, .ref pm), (3, .ref po), (4, .ref pd), (5, .int (nI (4 * k)))]) hx hb dL_law_783 hl (by decide) rfl (fun ls hl => ?_)
  refine lv_aload_n hx hb dL_law_785 rfl (lv_at hl 3 rfl) ?_
  refine lv_aload_n hx hb dL_law_786 rfl (lv_at hl 1 rfl) ?_
  refine lv_iload hx hb dL_law_787 (lv_at hl 6 rfl) ?_
  refine lv_iconst (v := 1) hx hb dL_law_789 (by decide) ?_
  refine lv_iadd hx hb dL_law_790 ?_
  rw [show nI (4 * k) + 1 = nI (4 * k + 1) from nI_add _ _]
  refine va_sld hx hb hX hbl hbA hI.2.1 (vp_in_nI (show 4 * k + 1 < N from by omega) (by omega)) dL_law_791 ?_
  obtain ⟨⟨⟨hkx, hkm, hkq, hkO, hkS, hkC, hkT⟩, ⟨hR, hO, hS9, hC, hT⟩, ⟨htM, htb⟩, lc, eC, nC, mC, cf, lt, eT, nT, mT, tf, hMo, hCo, hTh⟩, a0, a1, a2, a3, a4, a5, a6, a7⟩ := id hJ
  refine z_ci hI (va_runV (As := [.int (xs (nI (4 * k + 1)).toNatClampNeg)]) (rest := []) ⟨hx, hb, hml, hown, hts⟩ (c_X11_heat l D tc z0 _ κ g _ pm hkm (xs (nI (4 * k + 1)).toNatClampNeg) lc eC nC mC cf lt eT nT mT tf hMo ) (cwV 1 hts gL_law_X11_heat rfl rfl rfl (by decide +kernel) ⟨Nat.le_of_ble_eq_true rfl, Nat.le_of_ble_eq_true rfl⟩) (z_preV (Xc := []) hK hE hI [] rfl rfl (z_recv hK hI hkm rfl rfl)) rfl rfl hl.1 rfl (lv_room (Nat.le_of_ble_eq_true rfl)) dL_law_792 ⟨(show 60 + 20 * k + 37 * t + 1 + 0 ≤ 841393 from by omega), (show 400 + 120 * k + 162 * t + 6 + 0 ≤ 6571924 from by omega)⟩) (fun w u H locs hw hI => ?_)
  obtain ⟨x9, rfl⟩ := hw
  have hJ := hJ.upM (j := 12) (v := .int x9) (by decide)
  have hI : zI D tc (zA [] [] s.heap.size) s.heap [] L κ (zup g pm 12 (.int x9)) H locs := hI
  generalize (zup g pm 12 (.int x9)) = g at hI hJ
  refine lv_istore (lv' := [(7, .int w), (6, .int v), (0, .ref b), (1, .ref px), (2, .ref pm), (3, .ref po), (4, .ref pd), (5, .int (nI (4 * k)))]) hx hb dL_law_795 hl (by decide) rfl (fun ls hl => ?_)
  refine lv_goto (tgt := 1392) hx hb dL_law_797 (by decide) ?_
  have hl := lv_sub hl [2, 3, 4, 5, 6, 7] (l' := [(0, .ref b), (1, .ref px), (2, .ref pm), (3, .ref po), (4, .ref pd), (5, .int (nI (4 * k)))]) rfl
  refine W.widen (k := 60 + 20 * (k + 1) + 37 * t) (n := 400 + 120 * (k + 1) + 162 * t) (by omega) (by omega) ?_
  refine W.base ?_
  exact hN s.drawn L κ g _ _ _ _ (Drawn.sameBut.refl _ _) hJ hko hkd hI hl

set_option maxHeartbeats 4000000 in
set_option maxRecDepth 100000 in
theorem k_degrees (l : Launch) (hnt : l.stackTraces = false) {p : Program} {e : Env} {s : State} {m : MethodId} {below : List Frame} {meth : Method} {c : Code} {H : Heap} {locs : List Loc} {Q : State → Prop} {D : va_G} {tc : Nat → ClassId} {z0 b N : Nat} {xs : Nat → Int32} {px pm po pd rq co sp aC aT t k : Nat} {L : List Nat} {κ : Nat → Nat} {g : Nat → Nat → Value} {ls : Array Slot} (C : lwC p s m meth c b N xs D tc z0) (hk : 4 * k + 4 ≤ N) (hN8 : N ≤ 2048) (hJ : zJ κ g z0 px pm rq co sp aC aT t) (hko : κ po = 29) (hkd : κ pd = 30) (hI : zI D tc (zA [] [] s.heap.size) s.heap [] L κ g H locs) (hl : lv_has ls 9 [(0, .ref b), (1, .ref px), (2, .ref pm), (3, .ref po), (4, .ref pd), (5, .int (nI (4 * k)))]) (hN : lwN p l e s m below meth c b D tc z0 px pm po pd rq co sp aC aT k Q) : W p l e room_1 s m #[Value.ref b] below meth c H locs (60 + 20 * k + 37 * t) (400 + 120 * k + 162 * t) Q (F0 m 800 ls []) := by
  obtain ⟨hx, hb, hml, hown, hts, hK, hE, hX, hbl⟩ := C
  have hbA : ¬ zA [] [] s.heap.size b := fun q => by rcases q with q | q | q; exact absurd q List.not_mem_nil; exact absurd q List.not_mem_nil; exact absurd hbl (Nat.not_lt.mpr q)
  have htb9 : t ≤ 9999 := hJ.1.2.2.1.2
  refine lv_aload_n hx hb dL_law_800 rfl (lv_at hl 1 rfl) ?_
  refine lv_aload_n hx hb dL_law_801 rfl (lv_at hl 0 rfl) ?_
  refine lv_iload hx hb dL_law_802 (lv_at hl 5 rfl) ?_
  refine lv_iconst (v := 1) hx hb dL_law_804 (by decide) ?_
  refine lv_iadd hx hb dL_law_805 ?_
  rw [show nI (4 * k) + 1 = nI (4 * k + 1) from nI_add _ _]
  refine va_sld hx hb hX hbl hbA hI.2.1 (vp_in_nI (show 4 * k + 1 < N from by omega) (by omega)) dL_law_806 ?_
  refine lv_aload_n hx hb dL_law_807 rfl (lv_at hl 3 rfl) ?_
  obtain ⟨⟨⟨hkx, hkm, hkq, hkO, hkS, hkC, hkT⟩, ⟨hR, hO, hS9, hC, hT⟩, ⟨htM, htb⟩, lc, eC, nC, mC, cf, lt, eT, nT, mT, tf, hMo, hCo, hTh⟩, a0, a1, a2, a3, a4, a5, a6, a7⟩ := id hJ
  refine z_xi hI (vx_runSX (As := [.ref px, .int (xs (nI (4 * k + 1)).toNatClampNeg), .ref po]) (rest := []) ⟨hx, hb, hml, hown, hts⟩ (c_L_degrees l hnt D tc z0 _ κ g _ px hkx (xs (nI (4 * k + 1)).toNatClampNeg) po hko aC hC) (vx_cwSW 3 hts gL_law_L_degrees rfl rfl rfl (by decide +kernel) ⟨Nat.le_of_ble_eq_true rfl, Nat.le_of_ble_eq_true rfl⟩) (z_pre (Xc := []) hK hE hI [] rfl rfl) rfl rfl hl.1 rfl (lv_room (Nat.le_of_ble_eq_true rfl)) dL_law_808 ⟨(show 60 + 20 * k + 37 * t + 1 ≤ 841393 from by omega), (show 400 + 120 * k + 162 * t + 6 ≤ 6571924 from by omega)⟩) (fun E ce q9 u H locs hw hI he1 he2 he3 => hw.elim) (fun v u H locs hw hI => ?_)
  obtain ⟨L1, κ1, g1⟩ := u
  have hI : zI D tc (zA [] [] s.heap.size) s.heap [] L1 κ1 g1 H locs := hI
  have hJ : zJ κ1 g1 z0 px pm rq co sp aC aT t ∧ κ1 po = 29 ∧ κ1 pd = 30 := by
    rcases hw with ⟨_, r1, u1, v9, hp, hv9, hu⟩ | ⟨_, hp⟩
    · cases hu
      obtain ⟨_, hp⟩ := hp
      cases hp
      exact ⟨hJ.up hko (by decide), hko, hkd⟩
    · obtain ⟨_, hp⟩ := hp
      cases hp
      exact ⟨hJ, hko, hkd⟩
  obtain ⟨hJ, hko, hkd⟩ := hJ
  clear hw
  obtain ⟨L, rfl⟩ : ∃ x, x = L1 := ⟨_, rfl⟩
  obtain ⟨κ, rfl⟩ : ∃ x, x = κ1 := ⟨_, rfl⟩
  obtain ⟨g, rfl⟩ : ∃ x, x = g1 := ⟨_, rfl⟩
  refine lv_istore (lv' := [(6, .int v), (0, .ref b), (1, .ref px), (2, .ref pm), (3, .ref po), (4, .ref pd), (5, .int (nI (4 * k)))]) hx hb dL_law_811 hl (by decide) rfl (fun ls hl => ?_)
  refine lv_aload_n hx hb dL_law_813 rfl (lv_at hl 3 rfl) ?_
  refine lv_aload_n hx hb dL_law_814 rfl (lv_at hl 1 rfl) ?_
  refine lv_iload hx hb dL_law_815 (lv_at hl 6 rfl) ?_
  refine lv_iconst (v := 1) hx hb dL_law_817 (by decide) ?_
  refine lv_iadd hx hb dL_law_818 ?_
  rw [show nI (4 * k) + 1 = nI (4 * k + 1) from nI_add _ _]
  refine va_sld hx hb hX hbl hbA hI.2.1 (vp_in_nI (show 4 * k + 1 < N from by omega) (by omega)) dL_law_819 ?_
  obtain ⟨⟨⟨hkx, hkm, hkq, hkO, hkS, hkC, hkT⟩, ⟨hR, hO, hS9, hC, hT⟩, ⟨htM, htb⟩, lc, eC, nC, mC, cf, lt, eT, nT, mT, tf, hMo, hCo, hTh⟩, a0, a1, a2, a3, a4, a5, a6, a7⟩ := id hJ
  refine z_ci hI (va_runV (As := [.int (xs (nI (4 * k + 1)).toNatClampNeg)]) (rest := []) ⟨hx, hb, hml, hown, hts⟩ (c_X11_degrees l D tc z0 _ κ g _ pm hkm (xs (nI (4 * k + 1)).toNatClampNeg) lc eC nC mC cf lt eT nT mT tf hMo ) (cwV 1 hts gL_law_X11_degrees rfl rfl rfl (by decide +kernel) ⟨Nat.le_of_ble_eq_true rfl, Nat.le_of_ble_eq_true rfl⟩) (z_preV (Xc := []) hK hE hI [] rfl rfl (z_recv hK hI hkm rfl rfl)) rfl rfl hl.1 rfl (lv_room (Nat.le_of_ble_eq_true rfl)) dL_law_820 ⟨(show 60 + 20 * k + 37 * t + 1 + 0 ≤ 841393 from by omega), (show 400 + 120 * k + 162 * t + 6 + 0 ≤ 6571924 from by omega)⟩) (fun w u H locs hw hI => ?_)
  obtain ⟨x9, rfl⟩ := hw
  have hJ := hJ.upM (j := 12) (v := .int x9) (by decide)
  have hI : zI D tc (zA [] [] s.heap.size) s.heap [] L κ (zup g pm 12 (.int x9)) H locs := hI
  generalize (zup g pm 12 (.int x9)) = g at hI hJ
  refine lv_istore (lv' := [(7, .int w), (6, .int v), (0, .ref b), (1, .ref px), (2, .ref pm), (3, .ref po), (4, .ref pd), (5, .int (nI (4 * k)))]) hx hb dL_law_823 hl (by decide) rfl (fun ls hl => ?_)
  refine lv_goto (tgt := 1392) hx hb dL_law_825 (by decide) ?_
  have hl := lv_sub hl [2, 3, 4, 5, 6, 7] (l' := [(0, .ref b), (1, .ref px), (2, .ref pm), (3, .ref po), (4, .ref pd), (5, .int (nI (4 * k)))]) rfl
  refine W.widen (k := 60 + 20 * (k + 1) + 37 * t) (n := 400 + 120 * (k + 1) + 162 * t) (by omega) (by omega) ?_
  refine W.base ?_
  exact hN s.drawn L κ g _ _ _ _ (Drawn.sameBut.refl _ _) hJ hko hkd hI hl

set_option maxHeartbeats 4000000 in
set_option maxRecDepth 100000 in
theorem k_caseDegrees (l : Launch) (hnt : l.stackTraces = false) {p : Program} {e : Env} {s : State} {m : MethodId} {below : List Frame} {meth : Method} {c : Code} {H : Heap} {locs : List Loc} {Q : State → Prop} {D : va_G} {tc : Nat → ClassId} {z0 b N : Nat} {xs : Nat → Int32} {px pm po pd rq co sp aC aT t k : Nat} {L : List Nat} {κ : Nat → Nat} {g : Nat → Nat → Value} {ls : Array Slot} (C : lwC p s m meth c b N xs D tc z0) (hk : 4 * k + 4 ≤ N) (hN8 : N ≤ 2048) (hJ : zJ κ g z0 px pm rq co sp aC aT t) (hko : κ po = 29) (hkd : κ pd = 30) (hI : zI D tc (zA [] [] s.heap.size) s.heap [] L κ g H locs) (hl : lv_has ls 9 [(0, .ref b), (1, .ref px), (2, .ref pm), (3, .ref po), (4, .ref pd), (5, .int (nI (4 * k)))]) (hN : lwN p l e s m below meth c b D tc z0 px pm po pd rq co sp aC aT k Q) : W p l e room_1 s m #[Value.ref b] below meth c H locs (60 + 20 * k + 37 * t) (400 + 120 * k + 162 * t) Q (F0 m 828 ls []) := by
  obtain ⟨hx, hb, hml, hown, hts, hK, hE, hX, hbl⟩ := C
  have hbA : ¬ zA [] [] s.heap.size b := fun q => by rcases q with q | q | q; exact absurd q List.not_mem_nil; exact absurd q List.not_mem_nil; exact absurd hbl (Nat.not_lt.mpr q)
  have htb9 : t ≤ 9999 := hJ.1.2.2.1.2
  refine lv_aload_n hx hb dL_law_828 rfl (lv_at hl 1 rfl) ?_
  obtain ⟨⟨⟨hkx, hkm, hkq, hkO, hkS, hkC, hkT⟩, ⟨hR, hO, hS9, hC, hT⟩, ⟨htM, htb⟩, lc, eC, nC, mC, cf, lt, eT, nT, mT, tf, hMo, hCo, hTh⟩, a0, a1, a2, a3, a4, a5, a6, a7⟩ := id hJ
  refine z_ci hI (va_runV (As := []) (rest := []) ⟨hx, hb, hml, hown, hts⟩ (c_X8_caseDegrees l D tc z0 _ κ g _ px hkx  ) (cwV 0 hts gL_law_X8_caseDegrees rfl rfl rfl (by decide +kernel) ⟨Nat.le_of_ble_eq_true rfl, Nat.le_of_ble_eq_true rfl⟩) (z_preV (Xc := []) hK hE hI [] rfl rfl (z_recv hK hI hkx rfl rfl)) rfl rfl hl.1 rfl (lv_room (Nat.le_of_ble_eq_true rfl)) dL_law_829 ⟨(show 60 + 20 * k + 37 * t + 0 ≤ 841393 from by omega), (show 400 + 120 * k + 162 * t + 0 ≤ 6571924 from by omega)⟩) (fun v u H locs hw hI => ?_)
  obtain rfl := hw
  have hI : zI D tc (zA [] [] s.heap.size) s.heap [] L κ g H locs := hI
  refine lv_pop hx hb dL_law_832 rfl ?_
  refine lv_aload_n hx hb dL_law_833 rfl (lv_at hl 2 rfl) ?_
  obtain ⟨⟨⟨hkx, hkm, hkq, hkO, hkS, hkC, hkT⟩, ⟨hR, hO, hS9, hC, hT⟩, ⟨htM, htb⟩, lc, eC, nC, mC, cf, lt, eT, nT, mT, tf, hMo, hCo, hTh⟩, a0, a1, a2, a3, a4, a5, a6, a7⟩ := id hJ
  refine z_ci hI (va_runV (As := []) (rest := []) ⟨hx, hb, hml, hown, hts⟩ (c_X11_caseDegrees l D tc z0 _ κ g _ pm hkm   ) (cwV 0 hts gL_law_X11_caseDegrees rfl rfl rfl (by decide +kernel) ⟨Nat.le_of_ble_eq_true rfl, Nat.le_of_ble_eq_true rfl⟩) (z_preV (Xc := []) hK hE hI [] rfl rfl (z_recv hK hI hkm rfl rfl)) rfl rfl hl.1 rfl (lv_room (Nat.le_of_ble_eq_true rfl)) dL_law_834 ⟨(show 60 + 20 * k + 37 * t + 0 + 0 ≤ 841393 from by omega), (show 400 + 120 * k + 162 * t + 0 + 0 ≤ 6571924 from by omega)⟩) (fun w u H locs hw hI => ?_)
  obtain ⟨x9, rfl⟩ := hw
  have hJ := hJ.upM (j := 12) (v := .int x9) (by decide)
  have hI : zI D tc (zA [] [] s.heap.size) s.heap [] L κ (zup g pm 12 (.int x9)) H locs := hI
  generalize (zup g pm 12 (.int x9)) = g at hI hJ
  refine lv_pop hx hb dL_law_837 rfl ?_
  refine lv_goto (tgt := 1392) hx hb dL_law_838 (by decide) ?_
  have hl := lv_sub hl [0, 1, 2, 3, 4, 5] (l' := [(0, .ref b), (1, .ref px), (2, .ref pm), (3, .ref po), (4, .ref pd), (5, .int (nI (4 * k)))]) rfl
  refine W.widen (k := 60 + 20 * (k + 1) + 37 * t) (n := 400 + 120 * (k + 1) + 162 * t) (by omega) (by omega) ?_
  refine W.base ?_
  exact hN s.drawn L κ g _ _ _ _ (Drawn.sameBut.refl _ _) hJ hko hkd hI hl

set_option maxHeartbeats 4000000 in
set_option maxRecDepth 100000 in
theorem k_sensor (l : Launch) (hnt : l.stackTraces = false) {p : Program} {e : Env} {s : State} {m : MethodId} {below : List Frame} {meth : Method} {c : Code} {H : Heap} {locs : List Loc} {Q : State → Prop} {D : va_G} {tc : Nat → ClassId} {z0 b N : Nat} {xs : Nat → Int32} {px pm po pd rq co sp aC aT t k : Nat} {L : List Nat} {κ : Nat → Nat} {g : Nat → Nat → Value} {ls : Array Slot} (C : lwC p s m meth c b N xs D tc z0) (hk : 4 * k + 4 ≤ N) (hN8 : N ≤ 2048) (hJ : zJ κ g z0 px pm rq co sp aC aT t) (hko : κ po = 29) (hkd : κ pd = 30) (hI : zI D tc (zA [] [] s.heap.size) s.heap [] L κ g H locs) (hl : lv_has ls 9 [(0, .ref b), (1, .ref px), (2, .ref pm), (3, .ref po), (4, .ref pd), (5, .int (nI (4 * k)))]) (hN : lwN p l e s m below meth c b D tc z0 px pm po pd rq co sp aC aT k Q) : W p l e room_1 s m #[Value.ref b] below meth c H locs (60 + 20 * k + 37 * t) (400 + 120 * k + 162 * t) Q (F0 m 841 ls []) := by
  obtain ⟨hx, hb, hml, hown, hts, hK, hE, hX, hbl⟩ := C
  have hbA : ¬ zA [] [] s.heap.size b := fun q => by rcases q with q | q | q; exact absurd q List.not_mem_nil; exact absurd q List.not_mem_nil; exact absurd hbl (Nat.not_lt.mpr q)
  have htb9 : t ≤ 9999 := hJ.1.2.2.1.2
  refine lv_aload_n hx hb dL_law_841 rfl (lv_at hl 1 rfl) ?_
  refine lv_aload_n hx hb dL_law_842 rfl (lv_at hl 0 rfl) ?_
  refine lv_iload hx hb dL_law_843 (lv_at hl 5 rfl) ?_
  refine lv_iconst (v := 1) hx hb dL_law_845 (by decide) ?_
  refine lv_iadd hx hb dL_law_846 ?_
  rw [show nI (4 * k) + 1 = nI (4 * k + 1) from nI_add _ _]
  refine va_sld hx hb hX hbl hbA hI.2.1 (vp_in_nI (show 4 * k + 1 < N from by omega) (by omega)) dL_law_847 ?_
  refine lv_aload_n hx hb dL_law_848 rfl (lv_at hl 3 rfl) ?_
  obtain ⟨⟨⟨hkx, hkm, hkq, hkO, hkS, hkC, hkT⟩, ⟨hR, hO, hS9, hC, hT⟩, ⟨htM, htb⟩, lc, eC, nC, mC, cf, lt, eT, nT, mT, tf, hMo, hCo, hTh⟩, a0, a1, a2, a3, a4, a5, a6, a7⟩ := id hJ
  refine z_xi hI (vx_runSX (As := [.ref px, .int (xs (nI (4 * k + 1)).toNatClampNeg), .ref po]) (rest := []) ⟨hx, hb, hml, hown, hts⟩ (c_L_sensor l hnt D tc z0 _ κ g _ px hkx (xs (nI (4 * k + 1)).toNatClampNeg) po hko aC hC) (vx_cwSW 3 hts gL_law_L_sensor rfl rfl rfl (by decide +kernel) ⟨Nat.le_of_ble_eq_true rfl, Nat.le_of_ble_eq_true rfl⟩) (z_pre (Xc := []) hK hE hI [] rfl rfl) rfl rfl hl.1 rfl (lv_room (Nat.le_of_ble_eq_true rfl)) dL_law_849 ⟨(show 60 + 20 * k + 37 * t + 2 ≤ 841393 from by omega), (show 400 + 120 * k + 162 * t + 12 ≤ 6571924 from by omega)⟩) (fun E ce q9 u H locs hw hI he1 he2 he3 => hw.elim) (fun v u H locs hw hI => ?_)
  obtain ⟨L1, κ1, g1⟩ := u
  have hI : zI D tc (zA [] [] s.heap.size) s.heap [] L1 κ1 g1 H locs := hI
  have hJ : zJ κ1 g1 z0 px pm rq co sp aC aT t ∧ κ1 po = 29 ∧ κ1 pd = 30 := by
    rcases hw with ⟨_, r1, u1, v9, hp, hv9, hu⟩ | ⟨_, hp⟩ | ⟨_, hp⟩
    · cases hu
      obtain ⟨_, hp⟩ := hp
      cases hp
      exact ⟨hJ.up hko (by decide), hko, hkd⟩
    · obtain ⟨_, hp⟩ := hp
      cases hp
      exact ⟨hJ, hko, hkd⟩
    · obtain ⟨_, hp⟩ := hp
      cases hp
      exact ⟨hJ, hko, hkd⟩
  obtain ⟨hJ, hko, hkd⟩ := hJ
  clear hw
  obtain ⟨L, rfl⟩ : ∃ x, x = L1 := ⟨_, rfl⟩
  obtain ⟨κ, rfl⟩ : ∃ x, x = κ1 := ⟨_, rfl⟩
  obtain ⟨g, rfl⟩ : ∃ x, x = g1 := ⟨_, rfl⟩
  refine lv_istore (lv' := [(6, .int v), (0, .ref b), (1, .ref px), (2, .ref pm), (3, .ref po), (4, .ref pd), (5, .int (nI (4 * k)))]) hx hb dL_law_852 hl (by decide) rfl (fun ls hl => ?_)
  refine lv_aload_n hx hb dL_law_854 rfl (lv_at hl 3 rfl) ?_
  refine lv_aload_n hx hb dL_law_855 rfl (lv_at hl 1 rfl) ?_
  refine lv_iload hx hb dL_law_856 (lv_at hl 6 rfl) ?_
  refine lv_iconst (v := 1) hx hb dL_law_858 (by decide) ?_
  refine lv_iadd hx hb dL_law_859 ?_
  rw [show nI (4 * k) + 1 = nI (4 * k + 1) from nI_add _ _]
  refine va_sld hx hb hX hbl hbA hI.2.1 (vp_in_nI (show 4 * k + 1 < N from by omega) (by omega)) dL_law_860 ?_
  obtain ⟨⟨⟨hkx, hkm, hkq, hkO, hkS, hkC, hkT⟩, ⟨hR, hO, hS9, hC, hT⟩, ⟨htM, htb⟩, lc, eC, nC, mC, cf, lt, eT, nT, mT, tf, hMo, hCo, hTh⟩, a0, a1, a2, a3, a4, a5, a6, a7⟩ := id hJ
  refine z_ci hI (va_runV (As := [.int (xs (nI (4 * k + 1)).toNatClampNeg)]) (rest := []) ⟨hx, hb, hml, hown, hts⟩ (c_X11_sensor l D tc z0 _ κ g _ pm hkm (xs (nI (4 * k + 1)).toNatClampNeg) lc eC nC mC cf lt eT nT mT tf hMo ) (cwV 1 hts gL_law_X11_sensor rfl rfl rfl (by decide +kernel) ⟨Nat.le_of_ble_eq_true rfl, Nat.le_of_ble_eq_true rfl⟩) (z_preV (Xc := []) hK hE hI [] rfl rfl (z_recv hK hI hkm rfl rfl)) rfl rfl hl.1 rfl (lv_room (Nat.le_of_ble_eq_true rfl)) dL_law_861 ⟨(show 60 + 20 * k + 37 * t + 2 + 0 ≤ 841393 from by omega), (show 400 + 120 * k + 162 * t + 12 + 0 ≤ 6571924 from by omega)⟩) (fun w u H locs hw hI => ?_)
  obtain ⟨x9, rfl⟩ := hw
  have hJ := hJ.upM (j := 12) (v := .int x9) (by decide)
  have hI : zI D tc (zA [] [] s.heap.size) s.heap [] L κ (zup g pm 12 (.int x9)) H locs := hI
  generalize (zup g pm 12 (.int x9)) = g at hI hJ
  refine lv_istore (lv' := [(7, .int w), (6, .int v), (0, .ref b), (1, .ref px), (2, .ref pm), (3, .ref po), (4, .ref pd), (5, .int (nI (4 * k)))]) hx hb dL_law_864 hl (by decide) rfl (fun ls hl => ?_)
  refine lv_goto (tgt := 1392) hx hb dL_law_866 (by decide) ?_
  have hl := lv_sub hl [2, 3, 4, 5, 6, 7] (l' := [(0, .ref b), (1, .ref px), (2, .ref pm), (3, .ref po), (4, .ref pd), (5, .int (nI (4 * k)))]) rfl
  refine W.widen (k := 60 + 20 * (k + 1) + 37 * t) (n := 400 + 120 * (k + 1) + 162 * t) (by omega) (by omega) ?_
  refine W.base ?_
  exact hN s.drawn L κ g _ _ _ _ (Drawn.sameBut.refl _ _) hJ hko hkd hI hl

set_option maxHeartbeats 4000000 in
set_option maxRecDepth 100000 in
theorem k_lose (l : Launch) (hnt : l.stackTraces = false) {p : Program} {e : Env} {s : State} {m : MethodId} {below : List Frame} {meth : Method} {c : Code} {H : Heap} {locs : List Loc} {Q : State → Prop} {D : va_G} {tc : Nat → ClassId} {z0 b N : Nat} {xs : Nat → Int32} {px pm po pd rq co sp aC aT t k : Nat} {L : List Nat} {κ : Nat → Nat} {g : Nat → Nat → Value} {ls : Array Slot} (C : lwC p s m meth c b N xs D tc z0) (hk : 4 * k + 4 ≤ N) (hN8 : N ≤ 2048) (hJ : zJ κ g z0 px pm rq co sp aC aT t) (hko : κ po = 29) (hkd : κ pd = 30) (hI : zI D tc (zA [] [] s.heap.size) s.heap [] L κ g H locs) (hl : lv_has ls 9 [(0, .ref b), (1, .ref px), (2, .ref pm), (3, .ref po), (4, .ref pd), (5, .int (nI (4 * k)))]) (hN : lwN p l e s m below meth c b D tc z0 px pm po pd rq co sp aC aT k Q) : W p l e room_1 s m #[Value.ref b] below meth c H locs (60 + 20 * k + 37 * t) (400 + 120 * k + 162 * t) Q (F0 m 869 ls []) := by
  obtain ⟨hx, hb, hml, hown, hts, hK, hE, hX, hbl⟩ := C
  have hbA : ¬ zA [] [] s.heap.size b := fun q => by rcases q with q | q | q; exact absurd q List.not_mem_nil; exact absurd q List.not_mem_nil; exact absurd hbl (Nat.not_lt.mpr q)
  have htb9 : t ≤ 9999 := hJ.1.2.2.1.2
  refine lv_aload_n hx hb dL_law_869 rfl (lv_at hl 1 rfl) ?_
  refine lv_aload_n hx hb dL_law_870 rfl (lv_at hl 0 rfl) ?_
  refine lv_iload hx hb dL_law_871 (lv_at hl 5 rfl) ?_
  refine lv_iconst (v := 1) hx hb dL_law_873 (by decide) ?_
  refine lv_iadd hx hb dL_law_874 ?_
  rw [show nI (4 * k) + 1 = nI (4 * k + 1) from nI_add _ _]
  refine va_sld hx hb hX hbl hbA hI.2.1 (vp_in_nI (show 4 * k + 1 < N from by omega) (by omega)) dL_law_875 ?_
  refine lv_aload_n hx hb dL_law_876 rfl (lv_at hl 0 rfl) ?_
  refine lv_iload hx hb dL_law_877 (lv_at hl 5 rfl) ?_
  refine lv_iconst (v := 2) hx hb dL_law_879 (by decide) ?_
  refine lv_iadd hx hb dL_law_880 ?_
  rw [show nI (4 * k) + 2 = nI (4 * k + 2) from nI_add _ _]
  refine va_sld hx hb hX hbl hbA hI.2.1 (vp_in_nI (show 4 * k + 2 < N from by omega) (by omega)) dL_law_881 ?_
  refine lv_if_eq (tgt := 889) hx hb dL_law_882 (by decide) (fun cb => ?_) (fun cb => ?_)
  · skip
    refine lv_iconst (v := 0) hx hb dL_law_889 (by decide) ?_
    refine lv_aload_n hx hb dL_law_890 rfl (lv_at hl 3 rfl) ?_
    obtain ⟨⟨⟨hkx, hkm, hkq, hkO, hkS, hkC, hkT⟩, ⟨hR, hO, hS9, hC, hT⟩, ⟨htM, htb⟩, lc, eC, nC, mC, cf, lt, eT, nT, mT, tf, hMo, hCo, hTh⟩, a0, a1, a2, a3, a4, a5, a6, a7⟩ := id hJ
    refine z_xi hI (vx_runSX (As := [.ref px, .int (xs (nI (4 * k + 1)).toNatClampNeg), .int 0, .ref po]) (rest := []) ⟨hx, hb, hml, hown, hts⟩ (c_L_lose l hnt D tc z0 _ κ g _ px hkx (xs (nI (4 * k + 1)).toNatClampNeg) 0 (Or.inl rfl) po hko aC hC) (vx_cwSW 4 hts gL_law_L_lose rfl rfl rfl (by decide +kernel) ⟨Nat.le_of_ble_eq_true rfl, Nat.le_of_ble_eq_true rfl⟩) (z_pre (Xc := []) hK hE hI [] rfl rfl) rfl rfl hl.1 rfl (lv_room (Nat.le_of_ble_eq_true rfl)) dL_law_891 ⟨(show 60 + 20 * k + 37 * t + 1 ≤ 841393 from by omega), (show 400 + 120 * k + 162 * t + 6 ≤ 6571924 from by omega)⟩) (fun E ce q9 u H locs hw hI he1 he2 he3 => hw.elim) (fun v u H locs hw hI => ?_)
    have hbC := hMo.bC
    have hbT := hMo.bT
    rcases hw with ⟨rfl, r1, u1, v9, hp, hv9, hu⟩ | ⟨rfl, hp⟩
    · obtain ⟨a, hka, q1, q2, q4, qb, hp⟩ := hp
      cases hp
      cases hu
      obtain ⟨i9, hi9, hx9⟩ : ∃ i9, i9 < nC ∧ ((xs (nI (4 * k + 1)).toNatClampNeg)) = nI i9 := (hCo.has hMo.bC (by decide)).mp ⟨q1, _, q2⟩
      rw [hx9] at q2
      obtain ⟨hia, -, hkc, hps⟩ := hCo.nth hMo.bC (by decide) hi9 q2
      have hM1 : zMo κ (zup (zup g a 17 (.int 0)) po 0 (.long v9)) z0 pm lc eC nC mC cf lt eT nT mT tf := (hMo.upO hka (by decide)).upO hko (by decide)
      have hI : zI D tc (zA [] [] s.heap.size) s.heap [] L κ (zup (zup g a 17 (.int 0)) po 0 (.long v9)) H locs := hI
      obtain ⟨g1, hg1⟩ : ∃ x, x = (zup (zup g a 17 (.int 0)) po 0 (.long v9)) := ⟨_, rfl⟩
      rw [← hg1] at hI hM1
      refine lv_istore (lv' := [(6, .int 0), (0, .ref b), (1, .ref px), (2, .ref pm), (3, .ref po), (4, .ref pd), (5, .int (nI (4 * k)))]) hx hb dL_law_894 hl (by decide) rfl (fun ls hl => ?_)
      refine lv_aload_n hx hb dL_law_896 rfl (lv_at hl 3 rfl) ?_
      refine lv_aload_n hx hb dL_law_897 rfl (lv_at hl 1 rfl) ?_
      refine lv_iload hx hb dL_law_898 (lv_at hl 6 rfl) ?_
      refine lv_iconst (v := 1) hx hb dL_law_900 (by decide) ?_
      refine lv_iadd hx hb dL_law_901 ?_
      rw [show nI (4 * k) + 1 = nI (4 * k + 1) from nI_add _ _]
      refine va_sld hx hb hX hbl hbA hI.2.1 (vp_in_nI (show 4 * k + 1 < N from by omega) (by omega)) dL_law_902 ?_
      refine lv_aload_n hx hb dL_law_903 rfl (lv_at hl 1 rfl) ?_
      refine lv_iload hx hb dL_law_904 (lv_at hl 6 rfl) ?_
      refine lv_iconst (v := 2) hx hb dL_law_906 (by decide) ?_
      refine lv_iadd hx hb dL_law_907 ?_
      rw [show nI (4 * k) + 2 = nI (4 * k + 2) from nI_add _ _]
      refine va_sld hx hb hX hbl hbA hI.2.1 (vp_in_nI (show 4 * k + 2 < N from by omega) (by omega)) dL_law_908 ?_
      refine lv_if_eq (tgt := 916) hx hb dL_law_909 (by decide) (fun _ => ?_) (fun q => absurd cb q)
      refine lv_iconst (v := 0) hx hb dL_law_916 (by decide) ?_
      refine z_ci hI (va_runV (As := [.int (xs (nI (4 * k + 1)).toNatClampNeg), .int 0]) (rest := []) ⟨hx, hb, hml, hown, hts⟩ (c_X11_lose l D tc z0 _ κ g1 _ pm hkm (xs (nI (4 * k + 1)).toNatClampNeg) 0 (Or.inl rfl) lc eC nC mC cf lt eT nT mT tf hM1) (cwV 2 hts gL_law_X11_lose rfl rfl rfl (by decide +kernel) ⟨Nat.le_of_ble_eq_true rfl, Nat.le_of_ble_eq_true rfl⟩) (z_preV (Xc := []) hK hE hI [] rfl rfl (z_recv hK hI hkm rfl rfl)) rfl rfl hl.1 rfl (lv_room (Nat.le_of_ble_eq_true rfl)) dL_law_917 ⟨(show 60 + 20 * k + 37 * t + 1 + 0 ≤ 841393 from by omega), (show 400 + 120 * k + 162 * t + 6 + 0 ≤ 6571924 from by omega)⟩) (fun w u H locs hw hI => ?_)
      rcases hw with ⟨w0, hno, hu⟩ | ⟨i8, hi8, hx8, w3, w4, hu⟩
      · exact absurd hx9 (hno i9 hi9)
      · have e8 : i8 = i9 := (nI_eq (by omega) (by omega)).mp (hx8.symm.trans hx9)
        rw [e8] at w3 hu
        cases hu
        have hgc : g1 (cf i9) 15 = g (cf i9) 15 := by rw [hg1]; exact (zup_a (z_apart hkc hko (by decide))).trans (zup_a (z_apart hkc hka (by decide)))
        have hrw : r1 = w := Value.int.inj (q4.symm.trans ((hps (17, 15) (by decide)).trans (hgc.symm.trans w3)))
        rw [hg1] at hI
        have hJ : zJ κ (zup (zup (zup (zup g a 17 (.int 0)) po 0 (.long v9)) pm 12 (.int 0)) (cf i9) 15 (.int 0)) z0 px pm rq co sp aC aT t := zJ.setC hJ hMo hCo hTh hi9 hia hka hkc hko (by decide)
        have hI : zI D tc (zA [] [] s.heap.size) s.heap [] L κ (zup (zup (zup (zup g a 17 (.int 0)) po 0 (.long v9)) pm 12 (.int 0)) (cf i9) 15 (.int 0)) H locs := hI
        generalize (zup (zup (zup (zup g a 17 (.int 0)) po 0 (.long v9)) pm 12 (.int 0)) (cf i9) 15 (.int 0)) = g3 at hI hJ
        refine lv_istore (lv' := [(7, .int w), (6, .int 0), (0, .ref b), (1, .ref px), (2, .ref pm), (3, .ref po), (4, .ref pd), (5, .int (nI (4 * k)))]) hx hb dL_law_920 hl (by decide) rfl (fun ls hl => ?_)
        refine lv_goto (tgt := 1392) hx hb dL_law_922 (by decide) ?_
        have hl := lv_sub hl [2, 3, 4, 5, 6, 7] (l' := [(0, .ref b), (1, .ref px), (2, .ref pm), (3, .ref po), (4, .ref pd), (5, .int (nI (4 * k)))]) rfl
        refine W.widen (k := 60 + 20 * (k + 1) + 37 * t) (n := 400 + 120 * (k + 1) + 162 * t) (by omega) (by omega) ?_
        refine W.base ?_
        exact hN s.drawn L κ g3 _ _ _ _ (Drawn.sameBut.refl _ _) hJ hko hkd hI hl
    · obtain ⟨⟨_, q1⟩, hp⟩ := hp
      cases hp
      refine lv_istore (lv' := [(6, .int 1), (0, .ref b), (1, .ref px), (2, .ref pm), (3, .ref po), (4, .ref pd), (5, .int (nI (4 * k)))]) hx hb dL_law_894 hl (by decide) rfl (fun ls hl => ?_)
      refine lv_aload_n hx hb dL_law_896 rfl (lv_at hl 3 rfl) ?_
      refine lv_aload_n hx hb dL_law_897 rfl (lv_at hl 1 rfl) ?_
      refine lv_iload hx hb dL_law_898 (lv_at hl 6 rfl) ?_
      refine lv_iconst (v := 1) hx hb dL_law_900 (by decide) ?_
      refine lv_iadd hx hb dL_law_901 ?_
      rw [show nI (4 * k) + 1 = nI (4 * k + 1) from nI_add _ _]
      refine va_sld hx hb hX hbl hbA hI.2.1 (vp_in_nI (show 4 * k + 1 < N from by omega) (by omega)) dL_law_902 ?_
      refine lv_aload_n hx hb dL_law_903 rfl (lv_at hl 1 rfl) ?_
      refine lv_iload hx hb dL_law_904 (lv_at hl 6 rfl) ?_
      refine lv_iconst (v := 2) hx hb dL_law_906 (by decide) ?_
      refine lv_iadd hx hb dL_law_907 ?_
      rw [show nI (4 * k) + 2 = nI (4 * k + 2) from nI_add _ _]
      refine va_sld hx hb hX hbl hbA hI.2.1 (vp_in_nI (show 4 * k + 2 < N from by omega) (by omega)) dL_law_908 ?_
      refine lv_if_eq (tgt := 916) hx hb dL_law_909 (by decide) (fun _ => ?_) (fun q => absurd cb q)
      refine lv_iconst (v := 0) hx hb dL_law_916 (by decide) ?_
      refine z_ci hI (va_runV (As := [.int (xs (nI (4 * k + 1)).toNatClampNeg), .int 0]) (rest := []) ⟨hx, hb, hml, hown, hts⟩ (c_X11_lose l D tc z0 _ κ g _ pm hkm (xs (nI (4 * k + 1)).toNatClampNeg) 0 (Or.inl rfl) lc eC nC mC cf lt eT nT mT tf hMo) (cwV 2 hts gL_law_X11_lose rfl rfl rfl (by decide +kernel) ⟨Nat.le_of_ble_eq_true rfl, Nat.le_of_ble_eq_true rfl⟩) (z_preV (Xc := []) hK hE hI [] rfl rfl (z_recv hK hI hkm rfl rfl)) rfl rfl hl.1 rfl (lv_room (Nat.le_of_ble_eq_true rfl)) dL_law_917 ⟨(show 60 + 20 * k + 37 * t + 1 + 0 ≤ 841393 from by omega), (show 400 + 120 * k + 162 * t + 6 + 0 ≤ 6571924 from by omega)⟩) (fun w u H locs hw hI => ?_)
      rcases hw with ⟨w0, hno, hu⟩ | ⟨i8, hi8, hx8, w3, w4, hu⟩
      · skip
        cases hu
        have hJ : zJ κ (zup g pm 12 (.int 1)) z0 px pm rq co sp aC aT t := hJ.upM (by decide)
        have hI : zI D tc (zA [] [] s.heap.size) s.heap [] L κ (zup g pm 12 (.int 1)) H locs := hI
        generalize (zup g pm 12 (.int 1)) = g3 at hI hJ
        refine lv_istore (lv' := [(7, .int w), (6, .int 1), (0, .ref b), (1, .ref px), (2, .ref pm), (3, .ref po), (4, .ref pd), (5, .int (nI (4 * k)))]) hx hb dL_law_920 hl (by decide) rfl (fun ls hl => ?_)
        refine lv_goto (tgt := 1392) hx hb dL_law_922 (by decide) ?_
        have hl := lv_sub hl [2, 3, 4, 5, 6, 7] (l' := [(0, .ref b), (1, .ref px), (2, .ref pm), (3, .ref po), (4, .ref pd), (5, .int (nI (4 * k)))]) rfl
        refine W.widen (k := 60 + 20 * (k + 1) + 37 * t) (n := 400 + 120 * (k + 1) + 162 * t) (by omega) (by omega) ?_
        refine W.base ?_
        exact hN s.drawn L κ g3 _ _ _ _ (Drawn.sameBut.refl _ _) hJ hko hkd hI hl
      · exact absurd ((hCo.has hMo.bC (by decide)).mpr ⟨i8, hi8, hx8⟩) q1
  · skip
    refine lv_iconst (v := 1) hx hb dL_law_885 (by decide) ?_
    refine lv_goto (tgt := 890) hx hb dL_law_886 (by decide) ?_
    refine lv_aload_n hx hb dL_law_890 rfl (lv_at hl 3 rfl) ?_
    obtain ⟨⟨⟨hkx, hkm, hkq, hkO, hkS, hkC, hkT⟩, ⟨hR, hO, hS9, hC, hT⟩, ⟨htM, htb⟩, lc, eC, nC, mC, cf, lt, eT, nT, mT, tf, hMo, hCo, hTh⟩, a0, a1, a2, a3, a4, a5, a6, a7⟩ := id hJ
    refine z_xi hI (vx_runSX (As := [.ref px, .int (xs (nI (4 * k + 1)).toNatClampNeg), .int 1, .ref po]) (rest := []) ⟨hx, hb, hml, hown, hts⟩ (c_L_lose l hnt D tc z0 _ κ g _ px hkx (xs (nI (4 * k + 1)).toNatClampNeg) 1 (Or.inr rfl) po hko aC hC) (vx_cwSW 4 hts gL_law_L_lose rfl rfl rfl (by decide +kernel) ⟨Nat.le_of_ble_eq_true rfl, Nat.le_of_ble_eq_true rfl⟩) (z_pre (Xc := []) hK hE hI [] rfl rfl) rfl rfl hl.1 rfl (lv_room (Nat.le_of_ble_eq_true rfl)) dL_law_891 ⟨(show 60 + 20 * k + 37 * t + 1 ≤ 841393 from by omega), (show 400 + 120 * k + 162 * t + 6 ≤ 6571924 from by omega)⟩) (fun E ce q9 u H locs hw hI he1 he2 he3 => hw.elim) (fun v u H locs hw hI => ?_)
    have hbC := hMo.bC
    have hbT := hMo.bT
    rcases hw with ⟨rfl, r1, u1, v9, hp, hv9, hu⟩ | ⟨rfl, hp⟩
    · obtain ⟨a, hka, q1, q2, q4, qb, hp⟩ := hp
      cases hp
      cases hu
      obtain ⟨i9, hi9, hx9⟩ : ∃ i9, i9 < nC ∧ ((xs (nI (4 * k + 1)).toNatClampNeg)) = nI i9 := (hCo.has hMo.bC (by decide)).mp ⟨q1, _, q2⟩
      rw [hx9] at q2
      obtain ⟨hia, -, hkc, hps⟩ := hCo.nth hMo.bC (by decide) hi9 q2
      have hM1 : zMo κ (zup (zup g a 17 (.int 1)) po 0 (.long v9)) z0 pm lc eC nC mC cf lt eT nT mT tf := (hMo.upO hka (by decide)).upO hko (by decide)
      have hI : zI D tc (zA [] [] s.heap.size) s.heap [] L κ (zup (zup g a 17 (.int 1)) po 0 (.long v9)) H locs := hI
      obtain ⟨g1, hg1⟩ : ∃ x, x = (zup (zup g a 17 (.int 1)) po 0 (.long v9)) := ⟨_, rfl⟩
      rw [← hg1] at hI hM1
      refine lv_istore (lv' := [(6, .int 0), (0, .ref b), (1, .ref px), (2, .ref pm), (3, .ref po), (4, .ref pd), (5, .int (nI (4 * k)))]) hx hb dL_law_894 hl (by decide) rfl (fun ls hl => ?_)
      refine lv_aload_n hx hb dL_law_896 rfl (lv_at hl 3 rfl) ?_
      refine lv_aload_n hx hb dL_law_897 rfl (lv_at hl 1 rfl) ?_
      refine lv_iload hx hb dL_law_898 (lv_at hl 6 rfl) ?_
      refine lv_iconst (v := 1) hx hb dL_law_900 (by decide) ?_
      refine lv_iadd hx hb dL_law_901 ?_
      rw [show nI (4 * k) + 1 = nI (4 * k + 1) from nI_add _ _]
      refine va_sld hx hb hX hbl hbA hI.2.1 (vp_in_nI (show 4 * k + 1 < N from by omega) (by omega)) dL_law_902 ?_
      refine lv_aload_n hx hb dL_law_903 rfl (lv_at hl 1 rfl) ?_
      refine lv_iload hx hb dL_law_904 (lv_at hl 6 rfl) ?_
      refine lv_iconst (v := 2) hx hb dL_law_906 (by decide) ?_
      refine lv_iadd hx hb dL_law_907 ?_
      rw [show nI (4 * k) + 2 = nI (4 * k + 2) from nI_add _ _]
      refine va_sld hx hb hX hbl hbA hI.2.1 (vp_in_nI (show 4 * k + 2 < N from by omega) (by omega)) dL_law_908 ?_
      refine lv_if_eq (tgt := 916) hx hb dL_law_909 (by decide) (fun q => absurd q cb) (fun _ => ?_)
      refine lv_iconst (v := 1) hx hb dL_law_912 (by decide) ?_
      refine lv_goto (tgt := 917) hx hb dL_law_913 (by decide) ?_
      refine z_ci hI (va_runV (As := [.int (xs (nI (4 * k + 1)).toNatClampNeg), .int 1]) (rest := []) ⟨hx, hb, hml, hown, hts⟩ (c_X11_lose l D tc z0 _ κ g1 _ pm hkm (xs (nI (4 * k + 1)).toNatClampNeg) 1 (Or.inr rfl) lc eC nC mC cf lt eT nT mT tf hM1) (cwV 2 hts gL_law_X11_lose rfl rfl rfl (by decide +kernel) ⟨Nat.le_of_ble_eq_true rfl, Nat.le_of_ble_eq_true rfl⟩) (z_preV (Xc := []) hK hE hI [] rfl rfl (z_recv hK hI hkm rfl rfl)) rfl rfl hl.1 rfl (lv_room (Nat.le_of_ble_eq_true rfl)) dL_law_917 ⟨(show 60 + 20 * k + 37 * t + 1 + 0 ≤ 841393 from by omega), (show 400 + 120 * k + 162 * t + 6 + 0 ≤ 6571924 from by omega)⟩) (fun w u H locs hw hI => ?_)
      rcases hw with ⟨w0, hno, hu⟩ | ⟨i8, hi8, hx8, w3, w4, hu⟩
      · exact absurd hx9 (hno i9 hi9)
      · have e8 : i8 = i9 := (nI_eq (by omega) (by omega)).mp (hx8.symm.trans hx9)
        rw [e8] at w3 hu
        cases hu
        have hgc : g1 (cf i9) 15 = g (cf i9) 15 := by rw [hg1]; exact (zup_a (z_apart hkc hko (by decide))).trans (zup_a (z_apart hkc hka (by decide)))
        have hrw : r1 = w := Value.int.inj (q4.symm.trans ((hps (17, 15) (by decide)).trans (hgc.symm.trans w3)))
        rw [hg1] at hI
        have hJ : zJ κ (zup (zup (zup (zup g a 17 (.int 1)) po 0 (.long v9)) pm 12 (.int 0)) (cf i9) 15 (.int 1)) z0 px pm rq co sp aC aT t := zJ.setC hJ hMo hCo hTh hi9 hia hka hkc hko (by decide)
        have hI : zI D tc (zA [] [] s.heap.size) s.heap [] L κ (zup (zup (zup (zup g a 17 (.int 1)) po 0 (.long v9)) pm 12 (.int 0)) (cf i9) 15 (.int 1)) H locs := hI
        generalize (zup (zup (zup (zup g a 17 (.int 1)) po 0 (.long v9)) pm 12 (.int 0)) (cf i9) 15 (.int 1)) = g3 at hI hJ
        refine lv_istore (lv' := [(7, .int w), (6, .int 0), (0, .ref b), (1, .ref px), (2, .ref pm), (3, .ref po), (4, .ref pd), (5, .int (nI (4 * k)))]) hx hb dL_law_920 hl (by decide) rfl (fun ls hl => ?_)
        refine lv_goto (tgt := 1392) hx hb dL_law_922 (by decide) ?_
        have hl := lv_sub hl [2, 3, 4, 5, 6, 7] (l' := [(0, .ref b), (1, .ref px), (2, .ref pm), (3, .ref po), (4, .ref pd), (5, .int (nI (4 * k)))]) rfl
        refine W.widen (k := 60 + 20 * (k + 1) + 37 * t) (n := 400 + 120 * (k + 1) + 162 * t) (by omega) (by omega) ?_
        refine W.base ?_
        exact hN s.drawn L κ g3 _ _ _ _ (Drawn.sameBut.refl _ _) hJ hko hkd hI hl
    · obtain ⟨⟨_, q1⟩, hp⟩ := hp
      cases hp
      refine lv_istore (lv' := [(6, .int 1), (0, .ref b), (1, .ref px), (2, .ref pm), (3, .ref po), (4, .ref pd), (5, .int (nI (4 * k)))]) hx hb dL_law_894 hl (by decide) rfl (fun ls hl => ?_)
      refine lv_aload_n hx hb dL_law_896 rfl (lv_at hl 3 rfl) ?_
      refine lv_aload_n hx hb dL_law_897 rfl (lv_at hl 1 rfl) ?_
      refine lv_iload hx hb dL_law_898 (lv_at hl 6 rfl) ?_
      refine lv_iconst (v := 1) hx hb dL_law_900 (by decide) ?_
      refine lv_iadd hx hb dL_law_901 ?_
      rw [show nI (4 * k) + 1 = nI (4 * k + 1) from nI_add _ _]
      refine va_sld hx hb hX hbl hbA hI.2.1 (vp_in_nI (show 4 * k + 1 < N from by omega) (by omega)) dL_law_902 ?_
      refine lv_aload_n hx hb dL_law_903 rfl (lv_at hl 1 rfl) ?_
      refine lv_iload hx hb dL_law_904 (lv_at hl 6 rfl) ?_
      refine lv_iconst (v := 2) hx hb dL_law_906 (by decide) ?_
      refine lv_iadd hx hb dL_law_907 ?_
      rw [show nI (4 * k) + 2 = nI (4 * k + 2) from nI_add _ _]
      refine va_sld hx hb hX hbl hbA hI.2.1 (vp_in_nI (show 4 * k + 2 < N from by omega) (by omega)) dL_law_908 ?_
      refine lv_if_eq (tgt := 916) hx hb dL_law_909 (by decide) (fun q => absurd q cb) (fun _ => ?_)
      refine lv_iconst (v := 1) hx hb dL_law_912 (by decide) ?_
      refine lv_goto (tgt := 917) hx hb dL_law_913 (by decide) ?_
      refine z_ci hI (va_runV (As := [.int (xs (nI (4 * k + 1)).toNatClampNeg), .int 1]) (rest := []) ⟨hx, hb, hml, hown, hts⟩ (c_X11_lose l D tc z0 _ κ g _ pm hkm (xs (nI (4 * k + 1)).toNatClampNeg) 1 (Or.inr rfl) lc eC nC mC cf lt eT nT mT tf hMo) (cwV 2 hts gL_law_X11_lose rfl rfl rfl (by decide +kernel) ⟨Nat.le_of_ble_eq_true rfl, Nat.le_of_ble_eq_true rfl⟩) (z_preV (Xc := []) hK hE hI [] rfl rfl (z_recv hK hI hkm rfl rfl)) rfl rfl hl.1 rfl (lv_room (Nat.le_of_ble_eq_true rfl)) dL_law_917 ⟨(show 60 + 20 * k + 37 * t + 1 + 0 ≤ 841393 from by omega), (show 400 + 120 * k + 162 * t + 6 + 0 ≤ 6571924 from by omega)⟩) (fun w u H locs hw hI => ?_)
      rcases hw with ⟨w0, hno, hu⟩ | ⟨i8, hi8, hx8, w3, w4, hu⟩
      · skip
        cases hu
        have hJ : zJ κ (zup g pm 12 (.int 1)) z0 px pm rq co sp aC aT t := hJ.upM (by decide)
        have hI : zI D tc (zA [] [] s.heap.size) s.heap [] L κ (zup g pm 12 (.int 1)) H locs := hI
        generalize (zup g pm 12 (.int 1)) = g3 at hI hJ
        refine lv_istore (lv' := [(7, .int w), (6, .int 1), (0, .ref b), (1, .ref px), (2, .ref pm), (3, .ref po), (4, .ref pd), (5, .int (nI (4 * k)))]) hx hb dL_law_920 hl (by decide) rfl (fun ls hl => ?_)
        refine lv_goto (tgt := 1392) hx hb dL_law_922 (by decide) ?_
        have hl := lv_sub hl [2, 3, 4, 5, 6, 7] (l' := [(0, .ref b), (1, .ref px), (2, .ref pm), (3, .ref po), (4, .ref pd), (5, .int (nI (4 * k)))]) rfl
        refine W.widen (k := 60 + 20 * (k + 1) + 37 * t) (n := 400 + 120 * (k + 1) + 162 * t) (by omega) (by omega) ?_
        refine W.base ?_
        exact hN s.drawn L κ g3 _ _ _ _ (Drawn.sameBut.refl _ _) hJ hko hkd hI hl
      · exact absurd ((hCo.has hMo.bC (by decide)).mpr ⟨i8, hi8, hx8⟩) q1

set_option maxHeartbeats 4000000 in
set_option maxRecDepth 100000 in
theorem k_isTripped (l : Launch) (hnt : l.stackTraces = false) {p : Program} {e : Env} {s : State} {m : MethodId} {below : List Frame} {meth : Method} {c : Code} {H : Heap} {locs : List Loc} {Q : State → Prop} {D : va_G} {tc : Nat → ClassId} {z0 b N : Nat} {xs : Nat → Int32} {px pm po pd rq co sp aC aT t k : Nat} {L : List Nat} {κ : Nat → Nat} {g : Nat → Nat → Value} {ls : Array Slot} (C : lwC p s m meth c b N xs D tc z0) (hk : 4 * k + 4 ≤ N) (hN8 : N ≤ 2048) (hJ : zJ κ g z0 px pm rq co sp aC aT t) (hko : κ po = 29) (hkd : κ pd = 30) (hI : zI D tc (zA [] [] s.heap.size) s.heap [] L κ g H locs) (hl : lv_has ls 9 [(0, .ref b), (1, .ref px), (2, .ref pm), (3, .ref po), (4, .ref pd), (5, .int (nI (4 * k)))]) (hN : lwN p l e s m below meth c b D tc z0 px pm po pd rq co sp aC aT k Q) : W p l e room_1 s m #[Value.ref b] below meth c H locs (60 + 20 * k + 37 * t) (400 + 120 * k + 162 * t) Q (F0 m 925 ls []) := by
  obtain ⟨hx, hb, hml, hown, hts, hK, hE, hX, hbl⟩ := C
  have hbA : ¬ zA [] [] s.heap.size b := fun q => by rcases q with q | q | q; exact absurd q List.not_mem_nil; exact absurd q List.not_mem_nil; exact absurd hbl (Nat.not_lt.mpr q)
  have htb9 : t ≤ 9999 := hJ.1.2.2.1.2
  refine lv_aload_n hx hb dL_law_925 rfl (lv_at hl 1 rfl) ?_
  refine lv_aload_n hx hb dL_law_926 rfl (lv_at hl 0 rfl) ?_
  refine lv_iload hx hb dL_law_927 (lv_at hl 5 rfl) ?_
  refine lv_iconst (v := 1) hx hb dL_law_929 (by decide) ?_
  refine lv_iadd hx hb dL_law_930 ?_
  rw [show nI (4 * k) + 1 = nI (4 * k + 1) from nI_add _ _]
  refine va_sld hx hb hX hbl hbA hI.2.1 (vp_in_nI (show 4 * k + 1 < N from by omega) (by omega)) dL_law_931 ?_
  refine lv_aload_n hx hb dL_law_932 rfl (lv_at hl 3 rfl) ?_
  obtain ⟨⟨⟨hkx, hkm, hkq, hkO, hkS, hkC, hkT⟩, ⟨hR, hO, hS9, hC, hT⟩, ⟨htM, htb⟩, lc, eC, nC, mC, cf, lt, eT, nT, mT, tf, hMo, hCo, hTh⟩, a0, a1, a2, a3, a4, a5, a6, a7⟩ := id hJ
  refine z_xi hI (vx_runSX (As := [.ref px, .int (xs (nI (4 * k + 1)).toNatClampNeg), .ref po]) (rest := []) ⟨hx, hb, hml, hown, hts⟩ (c_L_isTripped l hnt D tc z0 _ κ g _ px hkx (xs (nI (4 * k + 1)).toNatClampNeg) po hko aC hC) (vx_cwSW 3 hts gL_law_L_isTripped rfl rfl rfl (by decide +kernel) ⟨Nat.le_of_ble_eq_true rfl, Nat.le_of_ble_eq_true rfl⟩) (z_pre (Xc := []) hK hE hI [] rfl rfl) rfl rfl hl.1 rfl (lv_room (Nat.le_of_ble_eq_true rfl)) dL_law_933 ⟨(show 60 + 20 * k + 37 * t + 1 ≤ 841393 from by omega), (show 400 + 120 * k + 162 * t + 6 ≤ 6571924 from by omega)⟩) (fun E ce q9 u H locs hw hI he1 he2 he3 => hw.elim) (fun v u H locs hw hI => ?_)
  obtain ⟨L1, κ1, g1⟩ := u
  have hI : zI D tc (zA [] [] s.heap.size) s.heap [] L1 κ1 g1 H locs := hI
  have hJ : zJ κ1 g1 z0 px pm rq co sp aC aT t ∧ κ1 po = 29 ∧ κ1 pd = 30 := by
    rcases hw with ⟨_, r1, u1, v9, hp, hv9, hu⟩ | ⟨_, hp⟩
    · cases hu
      obtain ⟨_, hp⟩ := hp
      cases hp
      exact ⟨hJ.up hko (by decide), hko, hkd⟩
    · obtain ⟨_, hp⟩ := hp
      cases hp
      exact ⟨hJ, hko, hkd⟩
  obtain ⟨hJ, hko, hkd⟩ := hJ
  clear hw
  obtain ⟨L, rfl⟩ : ∃ x, x = L1 := ⟨_, rfl⟩
  obtain ⟨κ, rfl⟩ : ∃ x, x = κ1 := ⟨_, rfl⟩
  obtain ⟨g, rfl⟩ : ∃ x, x = g1 := ⟨_, rfl⟩
  refine lv_istore (lv' := [(6, .int v), (0, .ref b), (1, .ref px), (2, .ref pm), (3, .ref po), (4, .ref pd), (5, .int (nI (4 * k)))]) hx hb dL_law_936 hl (by decide) rfl (fun ls hl => ?_)
  refine lv_aload_n hx hb dL_law_938 rfl (lv_at hl 3 rfl) ?_
  refine lv_aload_n hx hb dL_law_939 rfl (lv_at hl 1 rfl) ?_
  refine lv_iload hx hb dL_law_940 (lv_at hl 6 rfl) ?_
  refine lv_iconst (v := 1) hx hb dL_law_942 (by decide) ?_
  refine lv_iadd hx hb dL_law_943 ?_
  rw [show nI (4 * k) + 1 = nI (4 * k + 1) from nI_add _ _]
  refine va_sld hx hb hX hbl hbA hI.2.1 (vp_in_nI (show 4 * k + 1 < N from by omega) (by omega)) dL_law_944 ?_
  obtain ⟨⟨⟨hkx, hkm, hkq, hkO, hkS, hkC, hkT⟩, ⟨hR, hO, hS9, hC, hT⟩, ⟨htM, htb⟩, lc, eC, nC, mC, cf, lt, eT, nT, mT, tf, hMo, hCo, hTh⟩, a0, a1, a2, a3, a4, a5, a6, a7⟩ := id hJ
  refine z_ci hI (va_runV (As := [.int (xs (nI (4 * k + 1)).toNatClampNeg)]) (rest := []) ⟨hx, hb, hml, hown, hts⟩ (c_X11_isTripped l D tc z0 _ κ g _ pm hkm (xs (nI (4 * k + 1)).toNatClampNeg) lc eC nC mC cf lt eT nT mT tf hMo ) (cwV 1 hts gL_law_X11_isTripped rfl rfl rfl (by decide +kernel) ⟨Nat.le_of_ble_eq_true rfl, Nat.le_of_ble_eq_true rfl⟩) (z_preV (Xc := []) hK hE hI [] rfl rfl (z_recv hK hI hkm rfl rfl)) rfl rfl hl.1 rfl (lv_room (Nat.le_of_ble_eq_true rfl)) dL_law_945 ⟨(show 60 + 20 * k + 37 * t + 1 + 0 ≤ 841393 from by omega), (show 400 + 120 * k + 162 * t + 6 + 0 ≤ 6571924 from by omega)⟩) (fun w u H locs hw hI => ?_)
  obtain ⟨x9, rfl⟩ := hw
  have hJ := hJ.upM (j := 12) (v := .int x9) (by decide)
  have hI : zI D tc (zA [] [] s.heap.size) s.heap [] L κ (zup g pm 12 (.int x9)) H locs := hI
  generalize (zup g pm 12 (.int x9)) = g at hI hJ
  refine lv_istore (lv' := [(7, .int w), (6, .int v), (0, .ref b), (1, .ref px), (2, .ref pm), (3, .ref po), (4, .ref pd), (5, .int (nI (4 * k)))]) hx hb dL_law_948 hl (by decide) rfl (fun ls hl => ?_)
  refine lv_goto (tgt := 1392) hx hb dL_law_950 (by decide) ?_
  have hl := lv_sub hl [2, 3, 4, 5, 6, 7] (l' := [(0, .ref b), (1, .ref px), (2, .ref pm), (3, .ref po), (4, .ref pd), (5, .int (nI (4 * k)))]) rfl
  refine W.widen (k := 60 + 20 * (k + 1) + 37 * t) (n := 400 + 120 * (k + 1) + 162 * t) (by omega) (by omega) ?_
  refine W.base ?_
  exact hN s.drawn L κ g _ _ _ _ (Drawn.sameBut.refl _ _) hJ hko hkd hI hl

set_option maxHeartbeats 4000000 in
set_option maxRecDepth 100000 in
theorem k_fan (l : Launch) (hnt : l.stackTraces = false) {p : Program} {e : Env} {s : State} {m : MethodId} {below : List Frame} {meth : Method} {c : Code} {H : Heap} {locs : List Loc} {Q : State → Prop} {D : va_G} {tc : Nat → ClassId} {z0 b N : Nat} {xs : Nat → Int32} {px pm po pd rq co sp aC aT t k : Nat} {L : List Nat} {κ : Nat → Nat} {g : Nat → Nat → Value} {ls : Array Slot} (C : lwC p s m meth c b N xs D tc z0) (hk : 4 * k + 4 ≤ N) (hN8 : N ≤ 2048) (hJ : zJ κ g z0 px pm rq co sp aC aT t) (hko : κ po = 29) (hkd : κ pd = 30) (hI : zI D tc (zA [] [] s.heap.size) s.heap [] L κ g H locs) (hl : lv_has ls 9 [(0, .ref b), (1, .ref px), (2, .ref pm), (3, .ref po), (4, .ref pd), (5, .int (nI (4 * k)))]) (hN : lwN p l e s m below meth c b D tc z0 px pm po pd rq co sp aC aT k Q) : W p l e room_1 s m #[Value.ref b] below meth c H locs (60 + 20 * k + 37 * t) (400 + 120 * k + 162 * t) Q (F0 m 953 ls []) := by
  obtain ⟨hx, hb, hml, hown, hts, hK, hE, hX, hbl⟩ := C
  have hbA : ¬ zA [] [] s.heap.size b := fun q => by rcases q with q | q | q; exact absurd q List.not_mem_nil; exact absurd q List.not_mem_nil; exact absurd hbl (Nat.not_lt.mpr q)
  have htb9 : t ≤ 9999 := hJ.1.2.2.1.2
  refine lv_aload_n hx hb dL_law_953 rfl (lv_at hl 1 rfl) ?_
  obtain ⟨⟨⟨hkx, hkm, hkq, hkO, hkS, hkC, hkT⟩, ⟨hR, hO, hS9, hC, hT⟩, ⟨htM, htb⟩, lc, eC, nC, mC, cf, lt, eT, nT, mT, tf, hMo, hCo, hTh⟩, a0, a1, a2, a3, a4, a5, a6, a7⟩ := id hJ
  refine z_ci hI (va_runV (As := []) (rest := []) ⟨hx, hb, hml, hown, hts⟩ (c_X8_fan l D tc z0 _ κ g _ px hkx  ) (cwV 0 hts gL_law_X8_fan rfl rfl rfl (by decide +kernel) ⟨Nat.le_of_ble_eq_true rfl, Nat.le_of_ble_eq_true rfl⟩) (z_preV (Xc := []) hK hE hI [] rfl rfl (z_recv hK hI hkx rfl rfl)) rfl rfl hl.1 rfl (lv_room (Nat.le_of_ble_eq_true rfl)) dL_law_954 ⟨(show 60 + 20 * k + 37 * t + 0 ≤ 841393 from by omega), (show 400 + 120 * k + 162 * t + 0 ≤ 6571924 from by omega)⟩) (fun v u H locs hw hI => ?_)
  obtain rfl := hw
  have hI : zI D tc (zA [] [] s.heap.size) s.heap [] L κ g H locs := hI
  refine lv_pop hx hb dL_law_957 rfl ?_
  refine lv_aload_n hx hb dL_law_958 rfl (lv_at hl 2 rfl) ?_
  obtain ⟨⟨⟨hkx, hkm, hkq, hkO, hkS, hkC, hkT⟩, ⟨hR, hO, hS9, hC, hT⟩, ⟨htM, htb⟩, lc, eC, nC, mC, cf, lt, eT, nT, mT, tf, hMo, hCo, hTh⟩, a0, a1, a2, a3, a4, a5, a6, a7⟩ := id hJ
  refine z_ci hI (va_runV (As := []) (rest := []) ⟨hx, hb, hml, hown, hts⟩ (c_X11_fan l D tc z0 _ κ g _ pm hkm   ) (cwV 0 hts gL_law_X11_fan rfl rfl rfl (by decide +kernel) ⟨Nat.le_of_ble_eq_true rfl, Nat.le_of_ble_eq_true rfl⟩) (z_preV (Xc := []) hK hE hI [] rfl rfl (z_recv hK hI hkm rfl rfl)) rfl rfl hl.1 rfl (lv_room (Nat.le_of_ble_eq_true rfl)) dL_law_959 ⟨(show 60 + 20 * k + 37 * t + 0 + 0 ≤ 841393 from by omega), (show 400 + 120 * k + 162 * t + 0 + 0 ≤ 6571924 from by omega)⟩) (fun w u H locs hw hI => ?_)
  obtain ⟨x9, rfl⟩ := hw
  have hJ := hJ.upM (j := 12) (v := .int x9) (by decide)
  have hI : zI D tc (zA [] [] s.heap.size) s.heap [] L κ (zup g pm 12 (.int x9)) H locs := hI
  generalize (zup g pm 12 (.int x9)) = g at hI hJ
  refine lv_pop hx hb dL_law_962 rfl ?_
  refine lv_goto (tgt := 1392) hx hb dL_law_963 (by decide) ?_
  have hl := lv_sub hl [0, 1, 2, 3, 4, 5] (l' := [(0, .ref b), (1, .ref px), (2, .ref pm), (3, .ref po), (4, .ref pd), (5, .int (nI (4 * k)))]) rfl
  refine W.widen (k := 60 + 20 * (k + 1) + 37 * t) (n := 400 + 120 * (k + 1) + 162 * t) (by omega) (by omega) ?_
  refine W.base ?_
  exact hN s.drawn L κ g _ _ _ _ (Drawn.sameBut.refl _ _) hJ hko hkd hI hl

set_option maxHeartbeats 4000000 in
set_option maxRecDepth 100000 in
theorem k_killFan (l : Launch) (hnt : l.stackTraces = false) {p : Program} {e : Env} {s : State} {m : MethodId} {below : List Frame} {meth : Method} {c : Code} {H : Heap} {locs : List Loc} {Q : State → Prop} {D : va_G} {tc : Nat → ClassId} {z0 b N : Nat} {xs : Nat → Int32} {px pm po pd rq co sp aC aT t k : Nat} {L : List Nat} {κ : Nat → Nat} {g : Nat → Nat → Value} {ls : Array Slot} (C : lwC p s m meth c b N xs D tc z0) (hk : 4 * k + 4 ≤ N) (hN8 : N ≤ 2048) (hJ : zJ κ g z0 px pm rq co sp aC aT t) (hko : κ po = 29) (hkd : κ pd = 30) (hI : zI D tc (zA [] [] s.heap.size) s.heap [] L κ g H locs) (hl : lv_has ls 9 [(0, .ref b), (1, .ref px), (2, .ref pm), (3, .ref po), (4, .ref pd), (5, .int (nI (4 * k)))]) (hN : lwN p l e s m below meth c b D tc z0 px pm po pd rq co sp aC aT k Q) : W p l e room_1 s m #[Value.ref b] below meth c H locs (60 + 20 * k + 37 * t) (400 + 120 * k + 162 * t) Q (F0 m 966 ls []) := by
  obtain ⟨hx, hb, hml, hown, hts, hK, hE, hX, hbl⟩ := C
  have hbA : ¬ zA [] [] s.heap.size b := fun q => by rcases q with q | q | q; exact absurd q List.not_mem_nil; exact absurd q List.not_mem_nil; exact absurd hbl (Nat.not_lt.mpr q)
  have htb9 : t ≤ 9999 := hJ.1.2.2.1.2
  refine lv_aload_n hx hb dL_law_966 rfl (lv_at hl 1 rfl) ?_
  refine lv_aload_n hx hb dL_law_967 rfl (lv_at hl 0 rfl) ?_
  refine lv_iload hx hb dL_law_968 (lv_at hl 5 rfl) ?_
  refine lv_iconst (v := 1) hx hb dL_law_970 (by decide) ?_
  refine lv_iadd hx hb dL_law_971 ?_
  rw [show nI (4 * k) + 1 = nI (4 * k + 1) from nI_add _ _]
  refine va_sld hx hb hX hbl hbA hI.2.1 (vp_in_nI (show 4 * k + 1 < N from by omega) (by omega)) dL_law_972 ?_
  refine lv_if_eq (tgt := 980) hx hb dL_law_973 (by decide) (fun cb => ?_) (fun cb => ?_)
  · skip
    refine lv_iconst (v := 0) hx hb dL_law_980 (by decide) ?_
    obtain ⟨⟨⟨hkx, hkm, hkq, hkO, hkS, hkC, hkT⟩, ⟨hR, hO, hS9, hC, hT⟩, ⟨htM, htb⟩, lc, eC, nC, mC, cf, lt, eT, nT, mT, tf, hMo, hCo, hTh⟩, a0, a1, a2, a3, a4, a5, a6, a7⟩ := id hJ
    refine z_ci hI (va_runV (As := [.int 0]) (rest := []) ⟨hx, hb, hml, hown, hts⟩ (c_X8_killFan l D tc z0 _ κ g _ px hkx 0 (Or.inl rfl) co hO) (cwV 1 hts gL_law_X8_killFan rfl rfl rfl (by decide +kernel) ⟨Nat.le_of_ble_eq_true rfl, Nat.le_of_ble_eq_true rfl⟩) (z_preV (Xc := []) hK hE hI [] rfl rfl (z_recv hK hI hkx rfl rfl)) rfl rfl hl.1 rfl (lv_room (Nat.le_of_ble_eq_true rfl)) dL_law_981 ⟨(show 60 + 20 * k + 37 * t + 0 ≤ 841393 from by omega), (show 400 + 120 * k + 162 * t + 0 ≤ 6571924 from by omega)⟩) (fun v u H locs hw hI => ?_)
    obtain ⟨hr1, -, rfl⟩ := hw
    have n_px_pm : px ≠ pm := z_apart hkx hkm (by decide)
    have n_px_rq : px ≠ rq := z_apart hkx hkq (by decide)
    have n_px_co : px ≠ co := z_apart hkx hkO (by decide)
    have n_px_sp : px ≠ sp := z_apart hkx hkS (by decide)
    have n_px_po : px ≠ po := z_apart hkx hko (by decide)
    have n_pm_px : pm ≠ px := z_apart hkm hkx (by decide)
    have n_pm_rq : pm ≠ rq := z_apart hkm hkq (by decide)
    have n_pm_co : pm ≠ co := z_apart hkm hkO (by decide)
    have n_pm_sp : pm ≠ sp := z_apart hkm hkS (by decide)
    have n_pm_po : pm ≠ po := z_apart hkm hko (by decide)
    have n_rq_px : rq ≠ px := z_apart hkq hkx (by decide)
    have n_rq_pm : rq ≠ pm := z_apart hkq hkm (by decide)
    have n_rq_co : rq ≠ co := z_apart hkq hkO (by decide)
    have n_rq_sp : rq ≠ sp := z_apart hkq hkS (by decide)
    have n_rq_po : rq ≠ po := z_apart hkq hko (by decide)
    have n_co_px : co ≠ px := z_apart hkO hkx (by decide)
    have n_co_pm : co ≠ pm := z_apart hkO hkm (by decide)
    have n_co_rq : co ≠ rq := z_apart hkO hkq (by decide)
    have n_co_sp : co ≠ sp := z_apart hkO hkS (by decide)
    have n_co_po : co ≠ po := z_apart hkO hko (by decide)
    have n_sp_px : sp ≠ px := z_apart hkS hkx (by decide)
    have n_sp_pm : sp ≠ pm := z_apart hkS hkm (by decide)
    have n_sp_rq : sp ≠ rq := z_apart hkS hkq (by decide)
    have n_sp_co : sp ≠ co := z_apart hkS hkO (by decide)
    have n_sp_po : sp ≠ po := z_apart hkS hko (by decide)
    have n_po_px : po ≠ px := z_apart hko hkx (by decide)
    have n_po_pm : po ≠ pm := z_apart hko hkm (by decide)
    have n_po_rq : po ≠ rq := z_apart hko hkq (by decide)
    have n_po_co : po ≠ co := z_apart hko hkO (by decide)
    have n_po_sp : po ≠ sp := z_apart hko hkS (by decide)
    have hz : zLc κ (zup g co 4 (.int 0)) z0 px pm rq co sp aC aT t := hJ.1.up hkO (by decide)
    have hI : zI D tc (zA [] [] s.heap.size) s.heap [] L κ (zup g co 4 (.int 0)) H locs := hI
    obtain ⟨g1, hg1⟩ : ∃ x, x = (zup g co 4 (.int 0)) := ⟨_, rfl⟩
    rw [← hg1] at hI hz
    have hgm : ∀ j, g1 pm j = g pm j := fun j => by subst hg1; simp [zup, n_px_pm, n_px_rq, n_px_co, n_px_sp, n_px_po, n_pm_px, n_pm_rq, n_pm_co, n_pm_sp, n_pm_po, n_rq_px, n_rq_pm, n_rq_co, n_rq_sp, n_rq_po, n_co_px, n_co_pm, n_co_rq, n_co_sp, n_co_po, n_sp_px, n_sp_pm, n_sp_rq, n_sp_co, n_sp_po, n_po_px, n_po_pm, n_po_rq, n_po_co, n_po_sp]
    refine lv_pop hx hb dL_law_984 rfl ?_
    refine lv_aload_n hx hb dL_law_985 rfl (lv_at hl 2 rfl) ?_
    refine lv_aload_n hx hb dL_law_986 rfl (lv_at hl 0 rfl) ?_
    refine lv_iload hx hb dL_law_987 (lv_at hl 5 rfl) ?_
    refine lv_iconst (v := 1) hx hb dL_law_989 (by decide) ?_
    refine lv_iadd hx hb dL_law_990 ?_
    rw [show nI (4 * k) + 1 = nI (4 * k + 1) from nI_add _ _]
    refine va_sld hx hb hX hbl hbA hI.2.1 (vp_in_nI (show 4 * k + 1 < N from by omega) (by omega)) dL_law_991 ?_
    refine lv_if_eq (tgt := 999) hx hb dL_law_992 (by decide) (fun _ => ?_) (fun q => absurd cb q)
    refine lv_iconst (v := 0) hx hb dL_law_999 (by decide) ?_
    obtain ⟨⟨hkx, hkm, hkq, hkO, hkS, hkC, hkT⟩, ⟨hR, hO, hS9, hC, hT⟩, ⟨htM, htb⟩, lc, eC, nC, mC, cf, lt, eT, nT, mT, tf, hMo, hCo, hTh⟩ := id hz
    refine z_ci hI (va_runV (As := [.int 0]) (rest := []) ⟨hx, hb, hml, hown, hts⟩ (c_X11_killFan l D tc z0 _ κ g1 _ pm hkm 0 (Or.inl rfl)  ) (cwV 1 hts gL_law_X11_killFan rfl rfl rfl (by decide +kernel) ⟨Nat.le_of_ble_eq_true rfl, Nat.le_of_ble_eq_true rfl⟩) (z_preV (Xc := []) hK hE hI [] rfl rfl (z_recv hK hI hkm rfl rfl)) rfl rfl hl.1 rfl (lv_room (Nat.le_of_ble_eq_true rfl)) dL_law_1000 ⟨(show 60 + 20 * k + 37 * t + 0 + 0 ≤ 841393 from by omega), (show 400 + 120 * k + 162 * t + 0 + 0 ≤ 6571924 from by omega)⟩) (fun w u H locs hw hI => ?_)
    obtain ⟨hr2, -, rfl⟩ := hw
    have hJ : zJ κ (zup (zup g1 pm 12 (.int 0)) pm 25 (.int 0)) z0 px pm rq co sp aC aT t := ⟨(hz.upM (by decide)).upM (by decide), (by unfold zAg; subst hg1; simp [zup, n_px_pm, n_px_rq, n_px_co, n_px_sp, n_px_po, n_pm_px, n_pm_rq, n_pm_co, n_pm_sp, n_pm_po, n_rq_px, n_rq_pm, n_rq_co, n_rq_sp, n_rq_po, n_co_px, n_co_pm, n_co_rq, n_co_sp, n_co_po, n_sp_px, n_sp_pm, n_sp_rq, n_sp_co, n_sp_po, n_po_px, n_po_pm, n_po_rq, n_po_co, n_po_sp, a0, a1, a2, a3, a4, a5, a6, a7])⟩
    have hI : zI D tc (zA [] [] s.heap.size) s.heap [] L κ (zup (zup g1 pm 12 (.int 0)) pm 25 (.int 0)) H locs := hI
    generalize (zup (zup g1 pm 12 (.int 0)) pm 25 (.int 0)) = g3 at hI hJ
    refine lv_pop hx hb dL_law_1003 rfl ?_
    refine lv_goto (tgt := 1392) hx hb dL_law_1004 (by decide) ?_
    have hl := lv_sub hl [0, 1, 2, 3, 4, 5] (l' := [(0, .ref b), (1, .ref px), (2, .ref pm), (3, .ref po), (4, .ref pd), (5, .int (nI (4 * k)))]) rfl
    refine W.widen (k := 60 + 20 * (k + 1) + 37 * t) (n := 400 + 120 * (k + 1) + 162 * t) (by omega) (by omega) ?_
    refine W.base ?_
    exact hN s.drawn L κ g3 _ _ _ _ (Drawn.sameBut.refl _ _) hJ hko hkd hI hl
  · skip
    refine lv_iconst (v := 1) hx hb dL_law_976 (by decide) ?_
    refine lv_goto (tgt := 981) hx hb dL_law_977 (by decide) ?_
    obtain ⟨⟨⟨hkx, hkm, hkq, hkO, hkS, hkC, hkT⟩, ⟨hR, hO, hS9, hC, hT⟩, ⟨htM, htb⟩, lc, eC, nC, mC, cf, lt, eT, nT, mT, tf, hMo, hCo, hTh⟩, a0, a1, a2, a3, a4, a5, a6, a7⟩ := id hJ
    refine z_ci hI (va_runV (As := [.int 1]) (rest := []) ⟨hx, hb, hml, hown, hts⟩ (c_X8_killFan l D tc z0 _ κ g _ px hkx 1 (Or.inr rfl) co hO) (cwV 1 hts gL_law_X8_killFan rfl rfl rfl (by decide +kernel) ⟨Nat.le_of_ble_eq_true rfl, Nat.le_of_ble_eq_true rfl⟩) (z_preV (Xc := []) hK hE hI [] rfl rfl (z_recv hK hI hkx rfl rfl)) rfl rfl hl.1 rfl (lv_room (Nat.le_of_ble_eq_true rfl)) dL_law_981 ⟨(show 60 + 20 * k + 37 * t + 0 ≤ 841393 from by omega), (show 400 + 120 * k + 162 * t + 0 ≤ 6571924 from by omega)⟩) (fun v u H locs hw hI => ?_)
    obtain ⟨hr1, -, rfl⟩ := hw
    have n_px_pm : px ≠ pm := z_apart hkx hkm (by decide)
    have n_px_rq : px ≠ rq := z_apart hkx hkq (by decide)
    have n_px_co : px ≠ co := z_apart hkx hkO (by decide)
    have n_px_sp : px ≠ sp := z_apart hkx hkS (by decide)
    have n_px_po : px ≠ po := z_apart hkx hko (by decide)
    have n_pm_px : pm ≠ px := z_apart hkm hkx (by decide)
    have n_pm_rq : pm ≠ rq := z_apart hkm hkq (by decide)
    have n_pm_co : pm ≠ co := z_apart hkm hkO (by decide)
    have n_pm_sp : pm ≠ sp := z_apart hkm hkS (by decide)
    have n_pm_po : pm ≠ po := z_apart hkm hko (by decide)
    have n_rq_px : rq ≠ px := z_apart hkq hkx (by decide)
    have n_rq_pm : rq ≠ pm := z_apart hkq hkm (by decide)
    have n_rq_co : rq ≠ co := z_apart hkq hkO (by decide)
    have n_rq_sp : rq ≠ sp := z_apart hkq hkS (by decide)
    have n_rq_po : rq ≠ po := z_apart hkq hko (by decide)
    have n_co_px : co ≠ px := z_apart hkO hkx (by decide)
    have n_co_pm : co ≠ pm := z_apart hkO hkm (by decide)
    have n_co_rq : co ≠ rq := z_apart hkO hkq (by decide)
    have n_co_sp : co ≠ sp := z_apart hkO hkS (by decide)
    have n_co_po : co ≠ po := z_apart hkO hko (by decide)
    have n_sp_px : sp ≠ px := z_apart hkS hkx (by decide)
    have n_sp_pm : sp ≠ pm := z_apart hkS hkm (by decide)
    have n_sp_rq : sp ≠ rq := z_apart hkS hkq (by decide)
    have n_sp_co : sp ≠ co := z_apart hkS hkO (by decide)
    have n_sp_po : sp ≠ po := z_apart hkS hko (by decide)
    have n_po_px : po ≠ px := z_apart hko hkx (by decide)
    have n_po_pm : po ≠ pm := z_apart hko hkm (by decide)
    have n_po_rq : po ≠ rq := z_apart hko hkq (by decide)
    have n_po_co : po ≠ co := z_apart hko hkO (by decide)
    have n_po_sp : po ≠ sp := z_apart hko hkS (by decide)
    have hz : zLc κ (zup g co 4 (.int 1)) z0 px pm rq co sp aC aT t := hJ.1.up hkO (by decide)
    have hI : zI D tc (zA [] [] s.heap.size) s.heap [] L κ (zup g co 4 (.int 1)) H locs := hI
    obtain ⟨g1, hg1⟩ : ∃ x, x = (zup g co 4 (.int 1)) := ⟨_, rfl⟩
    rw [← hg1] at hI hz
    have hgm : ∀ j, g1 pm j = g pm j := fun j => by subst hg1; simp [zup, n_px_pm, n_px_rq, n_px_co, n_px_sp, n_px_po, n_pm_px, n_pm_rq, n_pm_co, n_pm_sp, n_pm_po, n_rq_px, n_rq_pm, n_rq_co, n_rq_sp, n_rq_po, n_co_px, n_co_pm, n_co_rq, n_co_sp, n_co_po, n_sp_px, n_sp_pm, n_sp_rq, n_sp_co, n_sp_po, n_po_px, n_po_pm, n_po_rq, n_po_co, n_po_sp]
    refine lv_pop hx hb dL_law_984 rfl ?_
    refine lv_aload_n hx hb dL_law_985 rfl (lv_at hl 2 rfl) ?_
    refine lv_aload_n hx hb dL_law_986 rfl (lv_at hl 0 rfl) ?_
    refine lv_iload hx hb dL_law_987 (lv_at hl 5 rfl) ?_
    refine lv_iconst (v := 1) hx hb dL_law_989 (by decide) ?_
    refine lv_iadd hx hb dL_law_990 ?_
    rw [show nI (4 * k) + 1 = nI (4 * k + 1) from nI_add _ _]
    refine va_sld hx hb hX hbl hbA hI.2.1 (vp_in_nI (show 4 * k + 1 < N from by omega) (by omega)) dL_law_991 ?_
    refine lv_if_eq (tgt := 999) hx hb dL_law_992 (by decide) (fun q => absurd q cb) (fun _ => ?_)
    refine lv_iconst (v := 1) hx hb dL_law_995 (by decide) ?_
    refine lv_goto (tgt := 1000) hx hb dL_law_996 (by decide) ?_
    obtain ⟨⟨hkx, hkm, hkq, hkO, hkS, hkC, hkT⟩, ⟨hR, hO, hS9, hC, hT⟩, ⟨htM, htb⟩, lc, eC, nC, mC, cf, lt, eT, nT, mT, tf, hMo, hCo, hTh⟩ := id hz
    refine z_ci hI (va_runV (As := [.int 1]) (rest := []) ⟨hx, hb, hml, hown, hts⟩ (c_X11_killFan l D tc z0 _ κ g1 _ pm hkm 1 (Or.inr rfl)  ) (cwV 1 hts gL_law_X11_killFan rfl rfl rfl (by decide +kernel) ⟨Nat.le_of_ble_eq_true rfl, Nat.le_of_ble_eq_true rfl⟩) (z_preV (Xc := []) hK hE hI [] rfl rfl (z_recv hK hI hkm rfl rfl)) rfl rfl hl.1 rfl (lv_room (Nat.le_of_ble_eq_true rfl)) dL_law_1000 ⟨(show 60 + 20 * k + 37 * t + 0 + 0 ≤ 841393 from by omega), (show 400 + 120 * k + 162 * t + 0 + 0 ≤ 6571924 from by omega)⟩) (fun w u H locs hw hI => ?_)
    obtain ⟨hr2, -, rfl⟩ := hw
    have hJ : zJ κ (zup (zup g1 pm 12 (.int 0)) pm 25 (.int 1)) z0 px pm rq co sp aC aT t := ⟨(hz.upM (by decide)).upM (by decide), (by unfold zAg; subst hg1; simp [zup, n_px_pm, n_px_rq, n_px_co, n_px_sp, n_px_po, n_pm_px, n_pm_rq, n_pm_co, n_pm_sp, n_pm_po, n_rq_px, n_rq_pm, n_rq_co, n_rq_sp, n_rq_po, n_co_px, n_co_pm, n_co_rq, n_co_sp, n_co_po, n_sp_px, n_sp_pm, n_sp_rq, n_sp_co, n_sp_po, n_po_px, n_po_pm, n_po_rq, n_po_co, n_po_sp, a0, a1, a2, a3, a4, a5, a6, a7])⟩
    have hI : zI D tc (zA [] [] s.heap.size) s.heap [] L κ (zup (zup g1 pm 12 (.int 0)) pm 25 (.int 1)) H locs := hI
    generalize (zup (zup g1 pm 12 (.int 0)) pm 25 (.int 1)) = g3 at hI hJ
    refine lv_pop hx hb dL_law_1003 rfl ?_
    refine lv_goto (tgt := 1392) hx hb dL_law_1004 (by decide) ?_
    have hl := lv_sub hl [0, 1, 2, 3, 4, 5] (l' := [(0, .ref b), (1, .ref px), (2, .ref pm), (3, .ref po), (4, .ref pd), (5, .int (nI (4 * k)))]) rfl
    refine W.widen (k := 60 + 20 * (k + 1) + 37 * t) (n := 400 + 120 * (k + 1) + 162 * t) (by omega) (by omega) ?_
    refine W.base ?_
    exact hN s.drawn L κ g3 _ _ _ _ (Drawn.sameBut.refl _ _) hJ hko hkd hI hl

set_option maxHeartbeats 4000000 in
set_option maxRecDepth 100000 in
theorem k_heatUp (l : Launch) (hnt : l.stackTraces = false) {p : Program} {e : Env} {s : State} {m : MethodId} {below : List Frame} {meth : Method} {c : Code} {H : Heap} {locs : List Loc} {Q : State → Prop} {D : va_G} {tc : Nat → ClassId} {z0 b N : Nat} {xs : Nat → Int32} {px pm po pd rq co sp aC aT t k : Nat} {L : List Nat} {κ : Nat → Nat} {g : Nat → Nat → Value} {ls : Array Slot} (C : lwC p s m meth c b N xs D tc z0) (hk : 4 * k + 4 ≤ N) (hN8 : N ≤ 2048) (hJ : zJ κ g z0 px pm rq co sp aC aT t) (hko : κ po = 29) (hkd : κ pd = 30) (hI : zI D tc (zA [] [] s.heap.size) s.heap [] L κ g H locs) (hl : lv_has ls 9 [(0, .ref b), (1, .ref px), (2, .ref pm), (3, .ref po), (4, .ref pd), (5, .int (nI (4 * k)))]) (hN : lwN p l e s m below meth c b D tc z0 px pm po pd rq co sp aC aT k Q) : W p l e room_1 s m #[Value.ref b] below meth c H locs (60 + 20 * k + 37 * t) (400 + 120 * k + 162 * t) Q (F0 m 1007 ls []) := by
  obtain ⟨hx, hb, hml, hown, hts, hK, hE, hX, hbl⟩ := C
  have hbA : ¬ zA [] [] s.heap.size b := fun q => by rcases q with q | q | q; exact absurd q List.not_mem_nil; exact absurd q List.not_mem_nil; exact absurd hbl (Nat.not_lt.mpr q)
  have htb9 : t ≤ 9999 := hJ.1.2.2.1.2
  refine lv_aload_n hx hb dL_law_1007 rfl (lv_at hl 1 rfl) ?_
  refine lv_aload_n hx hb dL_law_1008 rfl (lv_at hl 0 rfl) ?_
  refine lv_iload hx hb dL_law_1009 (lv_at hl 5 rfl) ?_
  refine lv_iconst (v := 1) hx hb dL_law_1011 (by decide) ?_
  refine lv_iadd hx hb dL_law_1012 ?_
  rw [show nI (4 * k) + 1 = nI (4 * k + 1) from nI_add _ _]
  refine va_sld hx hb hX hbl hbA hI.2.1 (vp_in_nI (show 4 * k + 1 < N from by omega) (by omega)) dL_law_1013 ?_
  refine lv_aload_n hx hb dL_law_1014 rfl (lv_at hl 0 rfl) ?_
  refine lv_iload hx hb dL_law_1015 (lv_at hl 5 rfl) ?_
  refine lv_iconst (v := 2) hx hb dL_law_1017 (by decide) ?_
  refine lv_iadd hx hb dL_law_1018 ?_
  rw [show nI (4 * k) + 2 = nI (4 * k + 2) from nI_add _ _]
  refine va_sld hx hb hX hbl hbA hI.2.1 (vp_in_nI (show 4 * k + 2 < N from by omega) (by omega)) dL_law_1019 ?_
  refine lv_aload_n hx hb dL_law_1020 rfl (lv_at hl 3 rfl) ?_
  obtain ⟨⟨⟨hkx, hkm, hkq, hkO, hkS, hkC, hkT⟩, ⟨hR, hO, hS9, hC, hT⟩, ⟨htM, htb⟩, lc, eC, nC, mC, cf, lt, eT, nT, mT, tf, hMo, hCo, hTh⟩, a0, a1, a2, a3, a4, a5, a6, a7⟩ := id hJ
  refine z_xi hI (vx_runSX (As := [.ref px, .int (xs (nI (4 * k + 1)).toNatClampNeg), .int (xs (nI (4 * k + 2)).toNatClampNeg), .ref po]) (rest := []) ⟨hx, hb, hml, hown, hts⟩ (c_L_heatUp l hnt D tc z0 _ κ g _ px hkx (xs (nI (4 * k + 1)).toNatClampNeg) (xs (nI (4 * k + 2)).toNatClampNeg) po hko aC hC) (vx_cwSW 4 hts gL_law_L_heatUp rfl rfl rfl (by decide +kernel) ⟨Nat.le_of_ble_eq_true rfl, Nat.le_of_ble_eq_true rfl⟩) (z_pre (Xc := []) hK hE hI [] rfl rfl) rfl rfl hl.1 rfl (lv_room (Nat.le_of_ble_eq_true rfl)) dL_law_1021 ⟨(show 60 + 20 * k + 37 * t + 2 ≤ 841393 from by omega), (show 400 + 120 * k + 162 * t + 12 ≤ 6571924 from by omega)⟩) (fun E ce q9 u H locs hw hI he1 he2 he3 => hw.elim) (fun v u H locs hw hI => ?_)
  obtain ⟨L1, κ1, g1⟩ := u
  have hI : zI D tc (zA [] [] s.heap.size) s.heap [] L1 κ1 g1 H locs := hI
  have hJ : zJ κ1 g1 z0 px pm rq co sp aC aT t ∧ κ1 po = 29 ∧ κ1 pd = 30 := by
    rcases hw with ⟨_, r1, u1, v9, hp, hv9, hu⟩ | ⟨_, hp⟩ | ⟨_, hp⟩ | ⟨_, hp⟩
    · cases hu
      obtain ⟨_, hp⟩ := hp
      cases hp
      exact ⟨hJ.up hko (by decide), hko, hkd⟩
    · obtain ⟨_, hp⟩ := hp
      cases hp
      exact ⟨hJ, hko, hkd⟩
    · obtain ⟨_, hp⟩ := hp
      cases hp
      exact ⟨hJ, hko, hkd⟩
    · obtain ⟨_, hp⟩ := hp
      cases hp
      exact ⟨hJ, hko, hkd⟩
  obtain ⟨hJ, hko, hkd⟩ := hJ
  clear hw
  obtain ⟨L, rfl⟩ : ∃ x, x = L1 := ⟨_, rfl⟩
  obtain ⟨κ, rfl⟩ : ∃ x, x = κ1 := ⟨_, rfl⟩
  obtain ⟨g, rfl⟩ : ∃ x, x = g1 := ⟨_, rfl⟩
  refine lv_istore (lv' := [(6, .int v), (0, .ref b), (1, .ref px), (2, .ref pm), (3, .ref po), (4, .ref pd), (5, .int (nI (4 * k)))]) hx hb dL_law_1024 hl (by decide) rfl (fun ls hl => ?_)
  refine lv_aload_n hx hb dL_law_1026 rfl (lv_at hl 3 rfl) ?_
  refine lv_aload_n hx hb dL_law_1027 rfl (lv_at hl 1 rfl) ?_
  refine lv_iload hx hb dL_law_1028 (lv_at hl 6 rfl) ?_
  refine lv_iconst (v := 1) hx hb dL_law_1030 (by decide) ?_
  refine lv_iadd hx hb dL_law_1031 ?_
  rw [show nI (4 * k) + 1 = nI (4 * k + 1) from nI_add _ _]
  refine va_sld hx hb hX hbl hbA hI.2.1 (vp_in_nI (show 4 * k + 1 < N from by omega) (by omega)) dL_law_1032 ?_
  refine lv_aload_n hx hb dL_law_1033 rfl (lv_at hl 1 rfl) ?_
  refine lv_iload hx hb dL_law_1034 (lv_at hl 6 rfl) ?_
  refine lv_iconst (v := 2) hx hb dL_law_1036 (by decide) ?_
  refine lv_iadd hx hb dL_law_1037 ?_
  rw [show nI (4 * k) + 2 = nI (4 * k + 2) from nI_add _ _]
  refine va_sld hx hb hX hbl hbA hI.2.1 (vp_in_nI (show 4 * k + 2 < N from by omega) (by omega)) dL_law_1038 ?_
  obtain ⟨⟨⟨hkx, hkm, hkq, hkO, hkS, hkC, hkT⟩, ⟨hR, hO, hS9, hC, hT⟩, ⟨htM, htb⟩, lc, eC, nC, mC, cf, lt, eT, nT, mT, tf, hMo, hCo, hTh⟩, a0, a1, a2, a3, a4, a5, a6, a7⟩ := id hJ
  refine z_ci hI (va_runV (As := [.int (xs (nI (4 * k + 1)).toNatClampNeg), .int (xs (nI (4 * k + 2)).toNatClampNeg)]) (rest := []) ⟨hx, hb, hml, hown, hts⟩ (c_X11_heatUp l D tc z0 _ κ g _ pm hkm (xs (nI (4 * k + 1)).toNatClampNeg) (xs (nI (4 * k + 2)).toNatClampNeg) lc eC nC mC cf lt eT nT mT tf hMo ) (cwV 2 hts gL_law_X11_heatUp rfl rfl rfl (by decide +kernel) ⟨Nat.le_of_ble_eq_true rfl, Nat.le_of_ble_eq_true rfl⟩) (z_preV (Xc := []) hK hE hI [] rfl rfl (z_recv hK hI hkm rfl rfl)) rfl rfl hl.1 rfl (lv_room (Nat.le_of_ble_eq_true rfl)) dL_law_1039 ⟨(show 60 + 20 * k + 37 * t + 2 + 0 ≤ 841393 from by omega), (show 400 + 120 * k + 162 * t + 12 + 0 ≤ 6571924 from by omega)⟩) (fun w u H locs hw hI => ?_)
  obtain ⟨x9, rfl⟩ := hw
  have hJ := hJ.upM (j := 12) (v := .int x9) (by decide)
  have hI : zI D tc (zA [] [] s.heap.size) s.heap [] L κ (zup g pm 12 (.int x9)) H locs := hI
  generalize (zup g pm 12 (.int x9)) = g at hI hJ
  refine lv_istore (lv' := [(7, .int w), (6, .int v), (0, .ref b), (1, .ref px), (2, .ref pm), (3, .ref po), (4, .ref pd), (5, .int (nI (4 * k)))]) hx hb dL_law_1042 hl (by decide) rfl (fun ls hl => ?_)
  refine lv_goto (tgt := 1392) hx hb dL_law_1044 (by decide) ?_
  have hl := lv_sub hl [2, 3, 4, 5, 6, 7] (l' := [(0, .ref b), (1, .ref px), (2, .ref pm), (3, .ref po), (4, .ref pd), (5, .int (nI (4 * k)))]) rfl
  refine W.widen (k := 60 + 20 * (k + 1) + 37 * t) (n := 400 + 120 * (k + 1) + 162 * t) (by omega) (by omega) ?_
  refine W.base ?_
  exact hN s.drawn L κ g _ _ _ _ (Drawn.sameBut.refl _ _) hJ hko hkd hI hl

set_option maxHeartbeats 4000000 in
set_option maxRecDepth 100000 in
theorem k_wall (l : Launch) (hnt : l.stackTraces = false) {p : Program} {e : Env} {s : State} {m : MethodId} {below : List Frame} {meth : Method} {c : Code} {H : Heap} {locs : List Loc} {Q : State → Prop} {D : va_G} {tc : Nat → ClassId} {z0 b N : Nat} {xs : Nat → Int32} {px pm po pd rq co sp aC aT t k : Nat} {L : List Nat} {κ : Nat → Nat} {g : Nat → Nat → Value} {ls : Array Slot} (C : lwC p s m meth c b N xs D tc z0) (hk : 4 * k + 4 ≤ N) (hN8 : N ≤ 2048) (hJ : zJ κ g z0 px pm rq co sp aC aT t) (hko : κ po = 29) (hkd : κ pd = 30) (hI : zI D tc (zA [] [] s.heap.size) s.heap [] L κ g H locs) (hl : lv_has ls 9 [(0, .ref b), (1, .ref px), (2, .ref pm), (3, .ref po), (4, .ref pd), (5, .int (nI (4 * k)))]) (hN : lwN p l e s m below meth c b D tc z0 px pm po pd rq co sp aC aT k Q) : W p l e room_1 s m #[Value.ref b] below meth c H locs (60 + 20 * k + 37 * t) (400 + 120 * k + 162 * t) Q (F0 m 1047 ls []) := by
  obtain ⟨hx, hb, hml, hown, hts, hK, hE, hX, hbl⟩ := C
  have hbA : ¬ zA [] [] s.heap.size b := fun q => by rcases q with q | q | q; exact absurd q List.not_mem_nil; exact absurd q List.not_mem_nil; exact absurd hbl (Nat.not_lt.mpr q)
  have htb9 : t ≤ 9999 := hJ.1.2.2.1.2
  refine lv_aload_n hx hb dL_law_1047 rfl (lv_at hl 1 rfl) ?_
  refine lv_aload_n hx hb dL_law_1048 rfl (lv_at hl 0 rfl) ?_
  refine lv_iload hx hb dL_law_1049 (lv_at hl 5 rfl) ?_
  refine lv_iconst (v := 1) hx hb dL_law_1051 (by decide) ?_
  refine lv_iadd hx hb dL_law_1052 ?_
  rw [show nI (4 * k) + 1 = nI (4 * k + 1) from nI_add _ _]
  refine va_sld hx hb hX hbl hbA hI.2.1 (vp_in_nI (show 4 * k + 1 < N from by omega) (by omega)) dL_law_1053 ?_
  refine lv_aload_n hx hb dL_law_1054 rfl (lv_at hl 3 rfl) ?_
  obtain ⟨⟨⟨hkx, hkm, hkq, hkO, hkS, hkC, hkT⟩, ⟨hR, hO, hS9, hC, hT⟩, ⟨htM, htb⟩, lc, eC, nC, mC, cf, lt, eT, nT, mT, tf, hMo, hCo, hTh⟩, a0, a1, a2, a3, a4, a5, a6, a7⟩ := id hJ
  refine z_xi hI (vx_runSX (As := [.ref px, .int (xs (nI (4 * k + 1)).toNatClampNeg), .ref po]) (rest := []) ⟨hx, hb, hml, hown, hts⟩ (c_L_wall l hnt D tc z0 _ κ g _ px hkx (xs (nI (4 * k + 1)).toNatClampNeg) po hko sp hS9) (vx_cwSW 3 hts gL_law_L_wall rfl rfl rfl (by decide +kernel) ⟨Nat.le_of_ble_eq_true rfl, Nat.le_of_ble_eq_true rfl⟩) (z_pre (Xc := []) hK hE hI [] rfl rfl) rfl rfl hl.1 rfl (lv_room (Nat.le_of_ble_eq_true rfl)) dL_law_1055 ⟨(show 60 + 20 * k + 37 * t + 1 ≤ 841393 from by omega), (show 400 + 120 * k + 162 * t + 6 ≤ 6571924 from by omega)⟩) (fun E ce q9 u H locs hw hI he1 he2 he3 => hw.elim) (fun v u H locs hw hI => ?_)
  rcases hw with ⟨_, r1, u1, v9, hp, hv9, hu⟩ | ⟨_, hp⟩
  · obtain ⟨q4, q1, hp⟩ := hp
    cases hp
    cases hu
    have n_px_pm : px ≠ pm := z_apart hkx hkm (by decide)
    have n_px_rq : px ≠ rq := z_apart hkx hkq (by decide)
    have n_px_co : px ≠ co := z_apart hkx hkO (by decide)
    have n_px_sp : px ≠ sp := z_apart hkx hkS (by decide)
    have n_px_po : px ≠ po := z_apart hkx hko (by decide)
    have n_pm_px : pm ≠ px := z_apart hkm hkx (by decide)
    have n_pm_rq : pm ≠ rq := z_apart hkm hkq (by decide)
    have n_pm_co : pm ≠ co := z_apart hkm hkO (by decide)
    have n_pm_sp : pm ≠ sp := z_apart hkm hkS (by decide)
    have n_pm_po : pm ≠ po := z_apart hkm hko (by decide)
    have n_rq_px : rq ≠ px := z_apart hkq hkx (by decide)
    have n_rq_pm : rq ≠ pm := z_apart hkq hkm (by decide)
    have n_rq_co : rq ≠ co := z_apart hkq hkO (by decide)
    have n_rq_sp : rq ≠ sp := z_apart hkq hkS (by decide)
    have n_rq_po : rq ≠ po := z_apart hkq hko (by decide)
    have n_co_px : co ≠ px := z_apart hkO hkx (by decide)
    have n_co_pm : co ≠ pm := z_apart hkO hkm (by decide)
    have n_co_rq : co ≠ rq := z_apart hkO hkq (by decide)
    have n_co_sp : co ≠ sp := z_apart hkO hkS (by decide)
    have n_co_po : co ≠ po := z_apart hkO hko (by decide)
    have n_sp_px : sp ≠ px := z_apart hkS hkx (by decide)
    have n_sp_pm : sp ≠ pm := z_apart hkS hkm (by decide)
    have n_sp_rq : sp ≠ rq := z_apart hkS hkq (by decide)
    have n_sp_co : sp ≠ co := z_apart hkS hkO (by decide)
    have n_sp_po : sp ≠ po := z_apart hkS hko (by decide)
    have n_po_px : po ≠ px := z_apart hko hkx (by decide)
    have n_po_pm : po ≠ pm := z_apart hko hkm (by decide)
    have n_po_rq : po ≠ rq := z_apart hko hkq (by decide)
    have n_po_co : po ≠ co := z_apart hko hkO (by decide)
    have n_po_sp : po ≠ sp := z_apart hko hkS (by decide)
    have hz : zLc κ (zup (zup g sp 0 (.int (xs (nI (4 * k + 1)).toNatClampNeg))) po 0 (.long v9)) z0 px pm rq co sp aC aT t := (hJ.1.up hkS (by decide)).up hko (by decide)
    have hI : zI D tc (zA [] [] s.heap.size) s.heap [] L κ (zup (zup g sp 0 (.int (xs (nI (4 * k + 1)).toNatClampNeg))) po 0 (.long v9)) H locs := hI
    obtain ⟨g1, hg1⟩ : ∃ x, x = (zup (zup g sp 0 (.int (xs (nI (4 * k + 1)).toNatClampNeg))) po 0 (.long v9)) := ⟨_, rfl⟩
    rw [← hg1] at hI hz
    have hgm : ∀ j, g1 pm j = g pm j := fun j => by subst hg1; simp [zup, n_px_pm, n_px_rq, n_px_co, n_px_sp, n_px_po, n_pm_px, n_pm_rq, n_pm_co, n_pm_sp, n_pm_po, n_rq_px, n_rq_pm, n_rq_co, n_rq_sp, n_rq_po, n_co_px, n_co_pm, n_co_rq, n_co_sp, n_co_po, n_sp_px, n_sp_pm, n_sp_rq, n_sp_co, n_sp_po, n_po_px, n_po_pm, n_po_rq, n_po_co, n_po_sp]
    refine lv_istore (lv' := [(6, .int v), (0, .ref b), (1, .ref px), (2, .ref pm), (3, .ref po), (4, .ref pd), (5, .int (nI (4 * k)))]) hx hb dL_law_1058 hl (by decide) rfl (fun ls hl => ?_)
    refine lv_aload_n hx hb dL_law_1060 rfl (lv_at hl 3 rfl) ?_
    refine lv_aload_n hx hb dL_law_1061 rfl (lv_at hl 1 rfl) ?_
    refine lv_iload hx hb dL_law_1062 (lv_at hl 6 rfl) ?_
    refine lv_iconst (v := 1) hx hb dL_law_1064 (by decide) ?_
    refine lv_iadd hx hb dL_law_1065 ?_
    rw [show nI (4 * k) + 1 = nI (4 * k + 1) from nI_add _ _]
    refine va_sld hx hb hX hbl hbA hI.2.1 (vp_in_nI (show 4 * k + 1 < N from by omega) (by omega)) dL_law_1066 ?_
    obtain ⟨⟨hkx, hkm, hkq, hkO, hkS, hkC, hkT⟩, ⟨hR, hO, hS9, hC, hT⟩, ⟨htM, htb⟩, lc, eC, nC, mC, cf, lt, eT, nT, mT, tf, hMo, hCo, hTh⟩ := id hz
    refine z_ci hI (va_runV (As := [.int (xs (nI (4 * k + 1)).toNatClampNeg)]) (rest := []) ⟨hx, hb, hml, hown, hts⟩ (c_X11_wall l D tc z0 _ κ g1 _ pm hkm (xs (nI (4 * k + 1)).toNatClampNeg)  ) (cwV 1 hts gL_law_X11_wall rfl rfl rfl (by decide +kernel) ⟨Nat.le_of_ble_eq_true rfl, Nat.le_of_ble_eq_true rfl⟩) (z_preV (Xc := []) hK hE hI [] rfl rfl (z_recv hK hI hkm rfl rfl)) rfl rfl hl.1 rfl (lv_room (Nat.le_of_ble_eq_true rfl)) dL_law_1067 ⟨(show 60 + 20 * k + 37 * t + 1 + 0 ≤ 841393 from by omega), (show 400 + 120 * k + 162 * t + 6 + 0 ≤ 6571924 from by omega)⟩) (fun w u H locs hw hI => ?_)
    rcases hw with ⟨w0, w1, hu⟩ | ⟨w1, w2, hu⟩
    · exact absurd q1 w1
    · cases hu
      have hJ : zJ κ (zup (zup g1 pm 12 (.int 0)) pm 7 (.int (xs (nI (4 * k + 1)).toNatClampNeg))) z0 px pm rq co sp aC aT t := ⟨(hz.upM (by decide)).upM (by decide), (by unfold zAg; subst hg1; simp [zup, n_px_pm, n_px_rq, n_px_co, n_px_sp, n_px_po, n_pm_px, n_pm_rq, n_pm_co, n_pm_sp, n_pm_po, n_rq_px, n_rq_pm, n_rq_co, n_rq_sp, n_rq_po, n_co_px, n_co_pm, n_co_rq, n_co_sp, n_co_po, n_sp_px, n_sp_pm, n_sp_rq, n_sp_co, n_sp_po, n_po_px, n_po_pm, n_po_rq, n_po_co, n_po_sp, a0, a1, a2, a3, a4, a5, a6, a7])⟩
      have hI : zI D tc (zA [] [] s.heap.size) s.heap [] L κ (zup (zup g1 pm 12 (.int 0)) pm 7 (.int (xs (nI (4 * k + 1)).toNatClampNeg))) H locs := hI
      generalize (zup (zup g1 pm 12 (.int 0)) pm 7 (.int (xs (nI (4 * k + 1)).toNatClampNeg))) = g3 at hI hJ
      refine lv_istore (lv' := [(7, .int w), (6, .int v), (0, .ref b), (1, .ref px), (2, .ref pm), (3, .ref po), (4, .ref pd), (5, .int (nI (4 * k)))]) hx hb dL_law_1070 hl (by decide) rfl (fun ls hl => ?_)
      refine lv_goto (tgt := 1392) hx hb dL_law_1072 (by decide) ?_
      have hl := lv_sub hl [2, 3, 4, 5, 6, 7] (l' := [(0, .ref b), (1, .ref px), (2, .ref pm), (3, .ref po), (4, .ref pd), (5, .int (nI (4 * k)))]) rfl
      refine W.widen (k := 60 + 20 * (k + 1) + 37 * t) (n := 400 + 120 * (k + 1) + 162 * t) (by omega) (by omega) ?_
      refine W.base ?_
      exact hN s.drawn L κ g3 _ _ _ _ (Drawn.sameBut.refl _ _) hJ hko hkd hI hl
  · obtain ⟨⟨_, q1⟩, hp⟩ := hp
    cases hp
    have n_px_pm : px ≠ pm := z_apart hkx hkm (by decide)
    have n_px_rq : px ≠ rq := z_apart hkx hkq (by decide)
    have n_px_co : px ≠ co := z_apart hkx hkO (by decide)
    have n_px_sp : px ≠ sp := z_apart hkx hkS (by decide)
    have n_px_po : px ≠ po := z_apart hkx hko (by decide)
    have n_pm_px : pm ≠ px := z_apart hkm hkx (by decide)
    have n_pm_rq : pm ≠ rq := z_apart hkm hkq (by decide)
    have n_pm_co : pm ≠ co := z_apart hkm hkO (by decide)
    have n_pm_sp : pm ≠ sp := z_apart hkm hkS (by decide)
    have n_pm_po : pm ≠ po := z_apart hkm hko (by decide)
    have n_rq_px : rq ≠ px := z_apart hkq hkx (by decide)
    have n_rq_pm : rq ≠ pm := z_apart hkq hkm (by decide)
    have n_rq_co : rq ≠ co := z_apart hkq hkO (by decide)
    have n_rq_sp : rq ≠ sp := z_apart hkq hkS (by decide)
    have n_rq_po : rq ≠ po := z_apart hkq hko (by decide)
    have n_co_px : co ≠ px := z_apart hkO hkx (by decide)
    have n_co_pm : co ≠ pm := z_apart hkO hkm (by decide)
    have n_co_rq : co ≠ rq := z_apart hkO hkq (by decide)
    have n_co_sp : co ≠ sp := z_apart hkO hkS (by decide)
    have n_co_po : co ≠ po := z_apart hkO hko (by decide)
    have n_sp_px : sp ≠ px := z_apart hkS hkx (by decide)
    have n_sp_pm : sp ≠ pm := z_apart hkS hkm (by decide)
    have n_sp_rq : sp ≠ rq := z_apart hkS hkq (by decide)
    have n_sp_co : sp ≠ co := z_apart hkS hkO (by decide)
    have n_sp_po : sp ≠ po := z_apart hkS hko (by decide)
    have n_po_px : po ≠ px := z_apart hko hkx (by decide)
    have n_po_pm : po ≠ pm := z_apart hko hkm (by decide)
    have n_po_rq : po ≠ rq := z_apart hko hkq (by decide)
    have n_po_co : po ≠ co := z_apart hko hkO (by decide)
    have n_po_sp : po ≠ sp := z_apart hko hkS (by decide)
    have hz : zLc κ g z0 px pm rq co sp aC aT t := hJ.1
    have hI : zI D tc (zA [] [] s.heap.size) s.heap [] L κ g H locs := hI
    obtain ⟨g1, hg1⟩ : ∃ x, x = g := ⟨_, rfl⟩
    rw [← hg1] at hI hz
    have hgm : ∀ j, g1 pm j = g pm j := fun j => by subst hg1; simp [zup, n_px_pm, n_px_rq, n_px_co, n_px_sp, n_px_po, n_pm_px, n_pm_rq, n_pm_co, n_pm_sp, n_pm_po, n_rq_px, n_rq_pm, n_rq_co, n_rq_sp, n_rq_po, n_co_px, n_co_pm, n_co_rq, n_co_sp, n_co_po, n_sp_px, n_sp_pm, n_sp_rq, n_sp_co, n_sp_po, n_po_px, n_po_pm, n_po_rq, n_po_co, n_po_sp]
    refine lv_istore (lv' := [(6, .int v), (0, .ref b), (1, .ref px), (2, .ref pm), (3, .ref po), (4, .ref pd), (5, .int (nI (4 * k)))]) hx hb dL_law_1058 hl (by decide) rfl (fun ls hl => ?_)
    refine lv_aload_n hx hb dL_law_1060 rfl (lv_at hl 3 rfl) ?_
    refine lv_aload_n hx hb dL_law_1061 rfl (lv_at hl 1 rfl) ?_
    refine lv_iload hx hb dL_law_1062 (lv_at hl 6 rfl) ?_
    refine lv_iconst (v := 1) hx hb dL_law_1064 (by decide) ?_
    refine lv_iadd hx hb dL_law_1065 ?_
    rw [show nI (4 * k) + 1 = nI (4 * k + 1) from nI_add _ _]
    refine va_sld hx hb hX hbl hbA hI.2.1 (vp_in_nI (show 4 * k + 1 < N from by omega) (by omega)) dL_law_1066 ?_
    obtain ⟨⟨hkx, hkm, hkq, hkO, hkS, hkC, hkT⟩, ⟨hR, hO, hS9, hC, hT⟩, ⟨htM, htb⟩, lc, eC, nC, mC, cf, lt, eT, nT, mT, tf, hMo, hCo, hTh⟩ := id hz
    refine z_ci hI (va_runV (As := [.int (xs (nI (4 * k + 1)).toNatClampNeg)]) (rest := []) ⟨hx, hb, hml, hown, hts⟩ (c_X11_wall l D tc z0 _ κ g1 _ pm hkm (xs (nI (4 * k + 1)).toNatClampNeg)  ) (cwV 1 hts gL_law_X11_wall rfl rfl rfl (by decide +kernel) ⟨Nat.le_of_ble_eq_true rfl, Nat.le_of_ble_eq_true rfl⟩) (z_preV (Xc := []) hK hE hI [] rfl rfl (z_recv hK hI hkm rfl rfl)) rfl rfl hl.1 rfl (lv_room (Nat.le_of_ble_eq_true rfl)) dL_law_1067 ⟨(show 60 + 20 * k + 37 * t + 1 + 0 ≤ 841393 from by omega), (show 400 + 120 * k + 162 * t + 6 + 0 ≤ 6571924 from by omega)⟩) (fun w u H locs hw hI => ?_)
    rcases hw with ⟨w0, w1, hu⟩ | ⟨w1, w2, hu⟩
    · cases hu
      have hJ : zJ κ (zup g1 pm 12 (.int 1)) z0 px pm rq co sp aC aT t := ⟨hz.upM (by decide), (by unfold zAg; subst hg1; simp [zup, n_px_pm, n_px_rq, n_px_co, n_px_sp, n_px_po, n_pm_px, n_pm_rq, n_pm_co, n_pm_sp, n_pm_po, n_rq_px, n_rq_pm, n_rq_co, n_rq_sp, n_rq_po, n_co_px, n_co_pm, n_co_rq, n_co_sp, n_co_po, n_sp_px, n_sp_pm, n_sp_rq, n_sp_co, n_sp_po, n_po_px, n_po_pm, n_po_rq, n_po_co, n_po_sp, a0, a1, a2, a3, a4, a5, a6, a7])⟩
      have hI : zI D tc (zA [] [] s.heap.size) s.heap [] L κ (zup g1 pm 12 (.int 1)) H locs := hI
      generalize (zup g1 pm 12 (.int 1)) = g3 at hI hJ
      refine lv_istore (lv' := [(7, .int w), (6, .int v), (0, .ref b), (1, .ref px), (2, .ref pm), (3, .ref po), (4, .ref pd), (5, .int (nI (4 * k)))]) hx hb dL_law_1070 hl (by decide) rfl (fun ls hl => ?_)
      refine lv_goto (tgt := 1392) hx hb dL_law_1072 (by decide) ?_
      have hl := lv_sub hl [2, 3, 4, 5, 6, 7] (l' := [(0, .ref b), (1, .ref px), (2, .ref pm), (3, .ref po), (4, .ref pd), (5, .int (nI (4 * k)))]) rfl
      refine W.widen (k := 60 + 20 * (k + 1) + 37 * t) (n := 400 + 120 * (k + 1) + 162 * t) (by omega) (by omega) ?_
      refine W.base ?_
      exact hN s.drawn L κ g3 _ _ _ _ (Drawn.sameBut.refl _ _) hJ hko hkd hI hl
    · exact absurd w1 q1

set_option maxHeartbeats 4000000 in
set_option maxRecDepth 100000 in
theorem k_battery (l : Launch) (hnt : l.stackTraces = false) {p : Program} {e : Env} {s : State} {m : MethodId} {below : List Frame} {meth : Method} {c : Code} {H : Heap} {locs : List Loc} {Q : State → Prop} {D : va_G} {tc : Nat → ClassId} {z0 b N : Nat} {xs : Nat → Int32} {px pm po pd rq co sp aC aT t k : Nat} {L : List Nat} {κ : Nat → Nat} {g : Nat → Nat → Value} {ls : Array Slot} (C : lwC p s m meth c b N xs D tc z0) (hk : 4 * k + 4 ≤ N) (hN8 : N ≤ 2048) (hJ : zJ κ g z0 px pm rq co sp aC aT t) (hko : κ po = 29) (hkd : κ pd = 30) (hI : zI D tc (zA [] [] s.heap.size) s.heap [] L κ g H locs) (hl : lv_has ls 9 [(0, .ref b), (1, .ref px), (2, .ref pm), (3, .ref po), (4, .ref pd), (5, .int (nI (4 * k)))]) (hN : lwN p l e s m below meth c b D tc z0 px pm po pd rq co sp aC aT k Q) : W p l e room_1 s m #[Value.ref b] below meth c H locs (60 + 20 * k + 37 * t) (400 + 120 * k + 162 * t) Q (F0 m 1075 ls []) := by
  obtain ⟨hx, hb, hml, hown, hts, hK, hE, hX, hbl⟩ := C
  have hbA : ¬ zA [] [] s.heap.size b := fun q => by rcases q with q | q | q; exact absurd q List.not_mem_nil; exact absurd q List.not_mem_nil; exact absurd hbl (Nat.not_lt.mpr q)
  have htb9 : t ≤ 9999 := hJ.1.2.2.1.2
  refine lv_aload_n hx hb dL_law_1075 rfl (lv_at hl 1 rfl) ?_
  obtain ⟨⟨⟨hkx, hkm, hkq, hkO, hkS, hkC, hkT⟩, ⟨hR, hO, hS9, hC, hT⟩, ⟨htM, htb⟩, lc, eC, nC, mC, cf, lt, eT, nT, mT, tf, hMo, hCo, hTh⟩, a0, a1, a2, a3, a4, a5, a6, a7⟩ := id hJ
  refine z_ci hI (va_runV (As := []) (rest := []) ⟨hx, hb, hml, hown, hts⟩ (c_X8_battery l D tc z0 _ κ g _ px hkx  ) (cwV 0 hts gL_law_X8_battery rfl rfl rfl (by decide +kernel) ⟨Nat.le_of_ble_eq_true rfl, Nat.le_of_ble_eq_true rfl⟩) (z_preV (Xc := []) hK hE hI [] rfl rfl (z_recv hK hI hkx rfl rfl)) rfl rfl hl.1 rfl (lv_room (Nat.le_of_ble_eq_true rfl)) dL_law_1076 ⟨(show 60 + 20 * k + 37 * t + 0 ≤ 841393 from by omega), (show 400 + 120 * k + 162 * t + 0 ≤ 6571924 from by omega)⟩) (fun v u H locs hw hI => ?_)
  obtain rfl := hw
  have hI : zI D tc (zA [] [] s.heap.size) s.heap [] L κ g H locs := hI
  refine lv_pop hx hb dL_law_1079 rfl ?_
  refine lv_aload_n hx hb dL_law_1080 rfl (lv_at hl 2 rfl) ?_
  obtain ⟨⟨⟨hkx, hkm, hkq, hkO, hkS, hkC, hkT⟩, ⟨hR, hO, hS9, hC, hT⟩, ⟨htM, htb⟩, lc, eC, nC, mC, cf, lt, eT, nT, mT, tf, hMo, hCo, hTh⟩, a0, a1, a2, a3, a4, a5, a6, a7⟩ := id hJ
  refine z_ci hI (va_runV (As := []) (rest := []) ⟨hx, hb, hml, hown, hts⟩ (c_X11_battery l D tc z0 _ κ g _ pm hkm   ) (cwV 0 hts gL_law_X11_battery rfl rfl rfl (by decide +kernel) ⟨Nat.le_of_ble_eq_true rfl, Nat.le_of_ble_eq_true rfl⟩) (z_preV (Xc := []) hK hE hI [] rfl rfl (z_recv hK hI hkm rfl rfl)) rfl rfl hl.1 rfl (lv_room (Nat.le_of_ble_eq_true rfl)) dL_law_1081 ⟨(show 60 + 20 * k + 37 * t + 0 + 0 ≤ 841393 from by omega), (show 400 + 120 * k + 162 * t + 0 + 0 ≤ 6571924 from by omega)⟩) (fun w u H locs hw hI => ?_)
  obtain ⟨x9, rfl⟩ := hw
  have hJ := hJ.upM (j := 12) (v := .int x9) (by decide)
  have hI : zI D tc (zA [] [] s.heap.size) s.heap [] L κ (zup g pm 12 (.int x9)) H locs := hI
  generalize (zup g pm 12 (.int x9)) = g at hI hJ
  refine lv_pop hx hb dL_law_1084 rfl ?_
  refine lv_goto (tgt := 1392) hx hb dL_law_1085 (by decide) ?_
  have hl := lv_sub hl [0, 1, 2, 3, 4, 5] (l' := [(0, .ref b), (1, .ref px), (2, .ref pm), (3, .ref po), (4, .ref pd), (5, .int (nI (4 * k)))]) rfl
  refine W.widen (k := 60 + 20 * (k + 1) + 37 * t) (n := 400 + 120 * (k + 1) + 162 * t) (by omega) (by omega) ?_
  refine W.base ?_
  exact hN s.drawn L κ g _ _ _ _ (Drawn.sameBut.refl _ _) hJ hko hkd hI hl

set_option maxHeartbeats 4000000 in
set_option maxRecDepth 100000 in
theorem k_purse (l : Launch) (hnt : l.stackTraces = false) {p : Program} {e : Env} {s : State} {m : MethodId} {below : List Frame} {meth : Method} {c : Code} {H : Heap} {locs : List Loc} {Q : State → Prop} {D : va_G} {tc : Nat → ClassId} {z0 b N : Nat} {xs : Nat → Int32} {px pm po pd rq co sp aC aT t k : Nat} {L : List Nat} {κ : Nat → Nat} {g : Nat → Nat → Value} {ls : Array Slot} (C : lwC p s m meth c b N xs D tc z0) (hk : 4 * k + 4 ≤ N) (hN8 : N ≤ 2048) (hJ : zJ κ g z0 px pm rq co sp aC aT t) (hko : κ po = 29) (hkd : κ pd = 30) (hI : zI D tc (zA [] [] s.heap.size) s.heap [] L κ g H locs) (hl : lv_has ls 9 [(0, .ref b), (1, .ref px), (2, .ref pm), (3, .ref po), (4, .ref pd), (5, .int (nI (4 * k)))]) (hN : lwN p l e s m below meth c b D tc z0 px pm po pd rq co sp aC aT k Q) : W p l e room_1 s m #[Value.ref b] below meth c H locs (60 + 20 * k + 37 * t) (400 + 120 * k + 162 * t) Q (F0 m 1088 ls []) := by
  obtain ⟨hx, hb, hml, hown, hts, hK, hE, hX, hbl⟩ := C
  have hbA : ¬ zA [] [] s.heap.size b := fun q => by rcases q with q | q | q; exact absurd q List.not_mem_nil; exact absurd q List.not_mem_nil; exact absurd hbl (Nat.not_lt.mpr q)
  have htb9 : t ≤ 9999 := hJ.1.2.2.1.2
  refine lv_aload_n hx hb dL_law_1088 rfl (lv_at hl 1 rfl) ?_
  obtain ⟨⟨⟨hkx, hkm, hkq, hkO, hkS, hkC, hkT⟩, ⟨hR, hO, hS9, hC, hT⟩, ⟨htM, htb⟩, lc, eC, nC, mC, cf, lt, eT, nT, mT, tf, hMo, hCo, hTh⟩, a0, a1, a2, a3, a4, a5, a6, a7⟩ := id hJ
  refine z_ci hI (va_runV (As := []) (rest := []) ⟨hx, hb, hml, hown, hts⟩ (c_X8_purse l D tc z0 _ κ g _ px hkx  ) (cwV 0 hts gL_law_X8_purse rfl rfl rfl (by decide +kernel) ⟨Nat.le_of_ble_eq_true rfl, Nat.le_of_ble_eq_true rfl⟩) (z_preV (Xc := []) hK hE hI [] rfl rfl (z_recv hK hI hkx rfl rfl)) rfl rfl hl.1 rfl (lv_room (Nat.le_of_ble_eq_true rfl)) dL_law_1089 ⟨(show 60 + 20 * k + 37 * t + 0 ≤ 841393 from by omega), (show 400 + 120 * k + 162 * t + 0 ≤ 6571924 from by omega)⟩) (fun v u H locs hw hI => ?_)
  obtain rfl := hw
  have hI : zI D tc (zA [] [] s.heap.size) s.heap [] L κ g H locs := hI
  refine lv_pop hx hb dL_law_1092 rfl ?_
  refine lv_aload_n hx hb dL_law_1093 rfl (lv_at hl 2 rfl) ?_
  obtain ⟨⟨⟨hkx, hkm, hkq, hkO, hkS, hkC, hkT⟩, ⟨hR, hO, hS9, hC, hT⟩, ⟨htM, htb⟩, lc, eC, nC, mC, cf, lt, eT, nT, mT, tf, hMo, hCo, hTh⟩, a0, a1, a2, a3, a4, a5, a6, a7⟩ := id hJ
  refine z_ci hI (va_runV (As := []) (rest := []) ⟨hx, hb, hml, hown, hts⟩ (c_X11_purse l D tc z0 _ κ g _ pm hkm   ) (cwV 0 hts gL_law_X11_purse rfl rfl rfl (by decide +kernel) ⟨Nat.le_of_ble_eq_true rfl, Nat.le_of_ble_eq_true rfl⟩) (z_preV (Xc := []) hK hE hI [] rfl rfl (z_recv hK hI hkm rfl rfl)) rfl rfl hl.1 rfl (lv_room (Nat.le_of_ble_eq_true rfl)) dL_law_1094 ⟨(show 60 + 20 * k + 37 * t + 0 + 0 ≤ 841393 from by omega), (show 400 + 120 * k + 162 * t + 0 + 0 ≤ 6571924 from by omega)⟩) (fun w u H locs hw hI => ?_)
  obtain ⟨x9, rfl⟩ := hw
  have hJ := hJ.upM (j := 12) (v := .int x9) (by decide)
  have hI : zI D tc (zA [] [] s.heap.size) s.heap [] L κ (zup g pm 12 (.int x9)) H locs := hI
  generalize (zup g pm 12 (.int x9)) = g at hI hJ
  refine lv_pop hx hb dL_law_1097 rfl ?_
  refine lv_goto (tgt := 1392) hx hb dL_law_1098 (by decide) ?_
  have hl := lv_sub hl [0, 1, 2, 3, 4, 5] (l' := [(0, .ref b), (1, .ref px), (2, .ref pm), (3, .ref po), (4, .ref pd), (5, .int (nI (4 * k)))]) rfl
  refine W.widen (k := 60 + 20 * (k + 1) + 37 * t) (n := 400 + 120 * (k + 1) + 162 * t) (by omega) (by omega) ?_
  refine W.base ?_
  exact hN s.drawn L κ g _ _ _ _ (Drawn.sameBut.refl _ _) hJ hko hkd hI hl

set_option maxHeartbeats 4000000 in
set_option maxRecDepth 100000 in
theorem k_taken (l : Launch) (hnt : l.stackTraces = false) {p : Program} {e : Env} {s : State} {m : MethodId} {below : List Frame} {meth : Method} {c : Code} {H : Heap} {locs : List Loc} {Q : State → Prop} {D : va_G} {tc : Nat → ClassId} {z0 b N : Nat} {xs : Nat → Int32} {px pm po pd rq co sp aC aT t k : Nat} {L : List Nat} {κ : Nat → Nat} {g : Nat → Nat → Value} {ls : Array Slot} (C : lwC p s m meth c b N xs D tc z0) (hk : 4 * k + 4 ≤ N) (hN8 : N ≤ 2048) (hJ : zJ κ g z0 px pm rq co sp aC aT t) (hko : κ po = 29) (hkd : κ pd = 30) (hI : zI D tc (zA [] [] s.heap.size) s.heap [] L κ g H locs) (hl : lv_has ls 9 [(0, .ref b), (1, .ref px), (2, .ref pm), (3, .ref po), (4, .ref pd), (5, .int (nI (4 * k)))]) (hN : lwN p l e s m below meth c b D tc z0 px pm po pd rq co sp aC aT k Q) : W p l e room_1 s m #[Value.ref b] below meth c H locs (60 + 20 * k + 37 * t) (400 + 120 * k + 162 * t) Q (F0 m 1101 ls []) := by
  obtain ⟨hx, hb, hml, hown, hts, hK, hE, hX, hbl⟩ := C
  have hbA : ¬ zA [] [] s.heap.size b := fun q => by rcases q with q | q | q; exact absurd q List.not_mem_nil; exact absurd q List.not_mem_nil; exact absurd hbl (Nat.not_lt.mpr q)
  have htb9 : t ≤ 9999 := hJ.1.2.2.1.2
  refine lv_aload_n hx hb dL_law_1101 rfl (lv_at hl 1 rfl) ?_
  obtain ⟨⟨⟨hkx, hkm, hkq, hkO, hkS, hkC, hkT⟩, ⟨hR, hO, hS9, hC, hT⟩, ⟨htM, htb⟩, lc, eC, nC, mC, cf, lt, eT, nT, mT, tf, hMo, hCo, hTh⟩, a0, a1, a2, a3, a4, a5, a6, a7⟩ := id hJ
  refine z_ci hI (va_runV (As := []) (rest := []) ⟨hx, hb, hml, hown, hts⟩ (c_X8_taken l D tc z0 _ κ g _ px hkx  ) (cwV 0 hts gL_law_X8_taken rfl rfl rfl (by decide +kernel) ⟨Nat.le_of_ble_eq_true rfl, Nat.le_of_ble_eq_true rfl⟩) (z_preV (Xc := []) hK hE hI [] rfl rfl (z_recv hK hI hkx rfl rfl)) rfl rfl hl.1 rfl (lv_room (Nat.le_of_ble_eq_true rfl)) dL_law_1102 ⟨(show 60 + 20 * k + 37 * t + 0 ≤ 841393 from by omega), (show 400 + 120 * k + 162 * t + 0 ≤ 6571924 from by omega)⟩) (fun v u H locs hw hI => ?_)
  obtain rfl := hw
  have hI : zI D tc (zA [] [] s.heap.size) s.heap [] L κ g H locs := hI
  refine lv_pop hx hb dL_law_1105 rfl ?_
  refine lv_aload_n hx hb dL_law_1106 rfl (lv_at hl 2 rfl) ?_
  obtain ⟨⟨⟨hkx, hkm, hkq, hkO, hkS, hkC, hkT⟩, ⟨hR, hO, hS9, hC, hT⟩, ⟨htM, htb⟩, lc, eC, nC, mC, cf, lt, eT, nT, mT, tf, hMo, hCo, hTh⟩, a0, a1, a2, a3, a4, a5, a6, a7⟩ := id hJ
  refine z_ci hI (va_runV (As := []) (rest := []) ⟨hx, hb, hml, hown, hts⟩ (c_X11_taken l D tc z0 _ κ g _ pm hkm   ) (cwV 0 hts gL_law_X11_taken rfl rfl rfl (by decide +kernel) ⟨Nat.le_of_ble_eq_true rfl, Nat.le_of_ble_eq_true rfl⟩) (z_preV (Xc := []) hK hE hI [] rfl rfl (z_recv hK hI hkm rfl rfl)) rfl rfl hl.1 rfl (lv_room (Nat.le_of_ble_eq_true rfl)) dL_law_1107 ⟨(show 60 + 20 * k + 37 * t + 0 + 0 ≤ 841393 from by omega), (show 400 + 120 * k + 162 * t + 0 + 0 ≤ 6571924 from by omega)⟩) (fun w u H locs hw hI => ?_)
  obtain ⟨x9, rfl⟩ := hw
  have hJ := hJ.upM (j := 12) (v := .int x9) (by decide)
  have hI : zI D tc (zA [] [] s.heap.size) s.heap [] L κ (zup g pm 12 (.int x9)) H locs := hI
  generalize (zup g pm 12 (.int x9)) = g at hI hJ
  refine lv_pop hx hb dL_law_1110 rfl ?_
  refine lv_goto (tgt := 1392) hx hb dL_law_1111 (by decide) ?_
  have hl := lv_sub hl [0, 1, 2, 3, 4, 5] (l' := [(0, .ref b), (1, .ref px), (2, .ref pm), (3, .ref po), (4, .ref pd), (5, .int (nI (4 * k)))]) rfl
  refine W.widen (k := 60 + 20 * (k + 1) + 37 * t) (n := 400 + 120 * (k + 1) + 162 * t) (by omega) (by omega) ?_
  refine W.base ?_
  exact hN s.drawn L κ g _ _ _ _ (Drawn.sameBut.refl _ _) hJ hko hkd hI hl

set_option maxHeartbeats 4000000 in
set_option maxRecDepth 100000 in
theorem k_owed (l : Launch) (hnt : l.stackTraces = false) {p : Program} {e : Env} {s : State} {m : MethodId} {below : List Frame} {meth : Method} {c : Code} {H : Heap} {locs : List Loc} {Q : State → Prop} {D : va_G} {tc : Nat → ClassId} {z0 b N : Nat} {xs : Nat → Int32} {px pm po pd rq co sp aC aT t k : Nat} {L : List Nat} {κ : Nat → Nat} {g : Nat → Nat → Value} {ls : Array Slot} (C : lwC p s m meth c b N xs D tc z0) (hk : 4 * k + 4 ≤ N) (hN8 : N ≤ 2048) (hJ : zJ κ g z0 px pm rq co sp aC aT t) (hko : κ po = 29) (hkd : κ pd = 30) (hI : zI D tc (zA [] [] s.heap.size) s.heap [] L κ g H locs) (hl : lv_has ls 9 [(0, .ref b), (1, .ref px), (2, .ref pm), (3, .ref po), (4, .ref pd), (5, .int (nI (4 * k)))]) (hN : lwN p l e s m below meth c b D tc z0 px pm po pd rq co sp aC aT k Q) : W p l e room_1 s m #[Value.ref b] below meth c H locs (60 + 20 * k + 37 * t) (400 + 120 * k + 162 * t) Q (F0 m 1114 ls []) := by
  obtain ⟨hx, hb, hml, hown, hts, hK, hE, hX, hbl⟩ := C
  have hbA : ¬ zA [] [] s.heap.size b := fun q => by rcases q with q | q | q; exact absurd q List.not_mem_nil; exact absurd q List.not_mem_nil; exact absurd hbl (Nat.not_lt.mpr q)
  have htb9 : t ≤ 9999 := hJ.1.2.2.1.2
  refine lv_aload_n hx hb dL_law_1114 rfl (lv_at hl 1 rfl) ?_
  obtain ⟨⟨⟨hkx, hkm, hkq, hkO, hkS, hkC, hkT⟩, ⟨hR, hO, hS9, hC, hT⟩, ⟨htM, htb⟩, lc, eC, nC, mC, cf, lt, eT, nT, mT, tf, hMo, hCo, hTh⟩, a0, a1, a2, a3, a4, a5, a6, a7⟩ := id hJ
  refine z_ci hI (va_runV (As := []) (rest := []) ⟨hx, hb, hml, hown, hts⟩ (c_X8_owed l D tc z0 _ κ g _ px hkx  ) (cwV 0 hts gL_law_X8_owed rfl rfl rfl (by decide +kernel) ⟨Nat.le_of_ble_eq_true rfl, Nat.le_of_ble_eq_true rfl⟩) (z_preV (Xc := []) hK hE hI [] rfl rfl (z_recv hK hI hkx rfl rfl)) rfl rfl hl.1 rfl (lv_room (Nat.le_of_ble_eq_true rfl)) dL_law_1115 ⟨(show 60 + 20 * k + 37 * t + 0 ≤ 841393 from by omega), (show 400 + 120 * k + 162 * t + 0 ≤ 6571924 from by omega)⟩) (fun v u H locs hw hI => ?_)
  obtain rfl := hw
  have hI : zI D tc (zA [] [] s.heap.size) s.heap [] L κ g H locs := hI
  refine lv_pop hx hb dL_law_1118 rfl ?_
  refine lv_aload_n hx hb dL_law_1119 rfl (lv_at hl 2 rfl) ?_
  obtain ⟨⟨⟨hkx, hkm, hkq, hkO, hkS, hkC, hkT⟩, ⟨hR, hO, hS9, hC, hT⟩, ⟨htM, htb⟩, lc, eC, nC, mC, cf, lt, eT, nT, mT, tf, hMo, hCo, hTh⟩, a0, a1, a2, a3, a4, a5, a6, a7⟩ := id hJ
  refine z_ci hI (va_runV (As := []) (rest := []) ⟨hx, hb, hml, hown, hts⟩ (c_X11_owed l D tc z0 _ κ g _ pm hkm   ) (cwV 0 hts gL_law_X11_owed rfl rfl rfl (by decide +kernel) ⟨Nat.le_of_ble_eq_true rfl, Nat.le_of_ble_eq_true rfl⟩) (z_preV (Xc := []) hK hE hI [] rfl rfl (z_recv hK hI hkm rfl rfl)) rfl rfl hl.1 rfl (lv_room (Nat.le_of_ble_eq_true rfl)) dL_law_1120 ⟨(show 60 + 20 * k + 37 * t + 0 + 0 ≤ 841393 from by omega), (show 400 + 120 * k + 162 * t + 0 + 0 ≤ 6571924 from by omega)⟩) (fun w u H locs hw hI => ?_)
  obtain ⟨x9, rfl⟩ := hw
  have hJ := hJ.upM (j := 12) (v := .int x9) (by decide)
  have hI : zI D tc (zA [] [] s.heap.size) s.heap [] L κ (zup g pm 12 (.int x9)) H locs := hI
  generalize (zup g pm 12 (.int x9)) = g at hI hJ
  refine lv_pop hx hb dL_law_1123 rfl ?_
  refine lv_goto (tgt := 1392) hx hb dL_law_1124 (by decide) ?_
  have hl := lv_sub hl [0, 1, 2, 3, 4, 5] (l' := [(0, .ref b), (1, .ref px), (2, .ref pm), (3, .ref po), (4, .ref pd), (5, .int (nI (4 * k)))]) rfl
  refine W.widen (k := 60 + 20 * (k + 1) + 37 * t) (n := 400 + 120 * (k + 1) + 162 * t) (by omega) (by omega) ?_
  refine W.base ?_
  exact hN s.drawn L κ g _ _ _ _ (Drawn.sameBut.refl _ _) hJ hko hkd hI hl

set_option maxHeartbeats 4000000 in
set_option maxRecDepth 100000 in
theorem k_request (l : Launch) (hnt : l.stackTraces = false) {p : Program} {e : Env} {s : State} {m : MethodId} {below : List Frame} {meth : Method} {c : Code} {H : Heap} {locs : List Loc} {Q : State → Prop} {D : va_G} {tc : Nat → ClassId} {z0 b N : Nat} {xs : Nat → Int32} {px pm po pd rq co sp aC aT t k : Nat} {L : List Nat} {κ : Nat → Nat} {g : Nat → Nat → Value} {ls : Array Slot} (C : lwC p s m meth c b N xs D tc z0) (hk : 4 * k + 4 ≤ N) (hN8 : N ≤ 2048) (hJ : zJ κ g z0 px pm rq co sp aC aT t) (hko : κ po = 29) (hkd : κ pd = 30) (hI : zI D tc (zA [] [] s.heap.size) s.heap [] L κ g H locs) (hl : lv_has ls 9 [(0, .ref b), (1, .ref px), (2, .ref pm), (3, .ref po), (4, .ref pd), (5, .int (nI (4 * k)))]) (hN : lwN p l e s m below meth c b D tc z0 px pm po pd rq co sp aC aT k Q) : W p l e room_1 s m #[Value.ref b] below meth c H locs (60 + 20 * k + 37 * t) (400 + 120 * k + 162 * t) Q (F0 m 1127 ls []) := by
  obtain ⟨hx, hb, hml, hown, hts, hK, hE, hX, hbl⟩ := C
  have hbA : ¬ zA [] [] s.heap.size b := fun q => by rcases q with q | q | q; exact absurd q List.not_mem_nil; exact absurd q List.not_mem_nil; exact absurd hbl (Nat.not_lt.mpr q)
  have htb9 : t ≤ 9999 := hJ.1.2.2.1.2
  refine lv_aload_n hx hb dL_law_1127 rfl (lv_at hl 1 rfl) ?_
  refine lv_aload_n hx hb dL_law_1128 rfl (lv_at hl 0 rfl) ?_
  refine lv_iload hx hb dL_law_1129 (lv_at hl 5 rfl) ?_
  refine lv_iconst (v := 1) hx hb dL_law_1131 (by decide) ?_
  refine lv_iadd hx hb dL_law_1132 ?_
  rw [show nI (4 * k) + 1 = nI (4 * k + 1) from nI_add _ _]
  refine va_sld hx hb hX hbl hbA hI.2.1 (vp_in_nI (show 4 * k + 1 < N from by omega) (by omega)) dL_law_1133 ?_
  refine lv_aload_n hx hb dL_law_1134 rfl (lv_at hl 0 rfl) ?_
  refine lv_iload hx hb dL_law_1135 (lv_at hl 5 rfl) ?_
  refine lv_iconst (v := 2) hx hb dL_law_1137 (by decide) ?_
  refine lv_iadd hx hb dL_law_1138 ?_
  rw [show nI (4 * k) + 2 = nI (4 * k + 2) from nI_add _ _]
  refine va_sld hx hb hX hbl hbA hI.2.1 (vp_in_nI (show 4 * k + 2 < N from by omega) (by omega)) dL_law_1139 ?_
  refine lv_aload_n hx hb dL_law_1140 rfl (lv_at hl 3 rfl) ?_
  obtain ⟨⟨⟨hkx, hkm, hkq, hkO, hkS, hkC, hkT⟩, ⟨hR, hO, hS9, hC, hT⟩, ⟨htM, htb⟩, lc, eC, nC, mC, cf, lt, eT, nT, mT, tf, hMo, hCo, hTh⟩, a0, a1, a2, a3, a4, a5, a6, a7⟩ := id hJ
  obtain ⟨n9, hn9⟩ := z_gi (j := 0) hI hkq rfl rfl
  obtain ⟨k9, hk9⟩ := z_gi (j := 1) hI hkq rfl rfl
  refine z_xi hI (vx_runSX (As := [.ref px, .int (xs (nI (4 * k + 1)).toNatClampNeg), .int (xs (nI (4 * k + 2)).toNatClampNeg), .ref po]) (rest := []) ⟨hx, hb, hml, hown, hts⟩ (c_L_request l hnt D tc z0 _ κ g _ px hkx (xs (nI (4 * k + 1)).toNatClampNeg) (xs (nI (4 * k + 2)).toNatClampNeg) po hko rq hR n9 k9 hn9 hk9) (vx_cwSW 4 hts gL_law_L_request rfl rfl rfl (by decide +kernel) ⟨Nat.le_of_ble_eq_true rfl, Nat.le_of_ble_eq_true rfl⟩) (z_pre (Xc := []) hK hE hI [] rfl rfl) rfl rfl hl.1 rfl (lv_room (Nat.le_of_ble_eq_true rfl)) dL_law_1141 ⟨(show 60 + 20 * k + 37 * t + 1 ≤ 841393 from by omega), (show 400 + 120 * k + 162 * t + 6 ≤ 6571924 from by omega)⟩) (fun E ce q9 u H locs hw hI he1 he2 he3 => hw.elim) (fun v u H locs hw hI => ?_)
  rcases hw with ⟨_, r1, u1, v9, hp, hv9, hu⟩ | ⟨_, hp⟩ | ⟨_, hp⟩
  · obtain ⟨q1, q2, q3, q4, hp⟩ := hp
    cases hp
    cases hu
    have n_px_pm : px ≠ pm := z_apart hkx hkm (by decide)
    have n_px_rq : px ≠ rq := z_apart hkx hkq (by decide)
    have n_px_co : px ≠ co := z_apart hkx hkO (by decide)
    have n_px_sp : px ≠ sp := z_apart hkx hkS (by decide)
    have n_px_po : px ≠ po := z_apart hkx hko (by decide)
    have n_pm_px : pm ≠ px := z_apart hkm hkx (by decide)
    have n_pm_rq : pm ≠ rq := z_apart hkm hkq (by decide)
    have n_pm_co : pm ≠ co := z_apart hkm hkO (by decide)
    have n_pm_sp : pm ≠ sp := z_apart hkm hkS (by decide)
    have n_pm_po : pm ≠ po := z_apart hkm hko (by decide)
    have n_rq_px : rq ≠ px := z_apart hkq hkx (by decide)
    have n_rq_pm : rq ≠ pm := z_apart hkq hkm (by decide)
    have n_rq_co : rq ≠ co := z_apart hkq hkO (by decide)
    have n_rq_sp : rq ≠ sp := z_apart hkq hkS (by decide)
    have n_rq_po : rq ≠ po := z_apart hkq hko (by decide)
    have n_co_px : co ≠ px := z_apart hkO hkx (by decide)
    have n_co_pm : co ≠ pm := z_apart hkO hkm (by decide)
    have n_co_rq : co ≠ rq := z_apart hkO hkq (by decide)
    have n_co_sp : co ≠ sp := z_apart hkO hkS (by decide)
    have n_co_po : co ≠ po := z_apart hkO hko (by decide)
    have n_sp_px : sp ≠ px := z_apart hkS hkx (by decide)
    have n_sp_pm : sp ≠ pm := z_apart hkS hkm (by decide)
    have n_sp_rq : sp ≠ rq := z_apart hkS hkq (by decide)
    have n_sp_co : sp ≠ co := z_apart hkS hkO (by decide)
    have n_sp_po : sp ≠ po := z_apart hkS hko (by decide)
    have n_po_px : po ≠ px := z_apart hko hkx (by decide)
    have n_po_pm : po ≠ pm := z_apart hko hkm (by decide)
    have n_po_rq : po ≠ rq := z_apart hko hkq (by decide)
    have n_po_co : po ≠ co := z_apart hko hkO (by decide)
    have n_po_sp : po ≠ sp := z_apart hko hkS (by decide)
    have hz : zLc κ (zup (zup (zup (zup g rq 0 (.int (n9 + 1))) rq 1 (.int (xs (nI (4 * k + 1)).toNatClampNeg))) rq 4 (.int (xs (nI (4 * k + 1)).toNatClampNeg))) po 0 (.long v9)) z0 px pm rq co sp aC aT t := (((hJ.1.up hkq (by decide)).up hkq (by decide)).up hkq (by decide)).up hko (by decide)
    have hI : zI D tc (zA [] [] s.heap.size) s.heap [] L κ (zup (zup (zup (zup g rq 0 (.int (n9 + 1))) rq 1 (.int (xs (nI (4 * k + 1)).toNatClampNeg))) rq 4 (.int (xs (nI (4 * k + 1)).toNatClampNeg))) po 0 (.long v9)) H locs := hI
    obtain ⟨g1, hg1⟩ : ∃ x, x = (zup (zup (zup (zup g rq 0 (.int (n9 + 1))) rq 1 (.int (xs (nI (4 * k + 1)).toNatClampNeg))) rq 4 (.int (xs (nI (4 * k + 1)).toNatClampNeg))) po 0 (.long v9)) := ⟨_, rfl⟩
    rw [← hg1] at hI hz
    have hgm : ∀ j, g1 pm j = g pm j := fun j => by subst hg1; simp [zup, n_px_pm, n_px_rq, n_px_co, n_px_sp, n_px_po, n_pm_px, n_pm_rq, n_pm_co, n_pm_sp, n_pm_po, n_rq_px, n_rq_pm, n_rq_co, n_rq_sp, n_rq_po, n_co_px, n_co_pm, n_co_rq, n_co_sp, n_co_po, n_sp_px, n_sp_pm, n_sp_rq, n_sp_co, n_sp_po, n_po_px, n_po_pm, n_po_rq, n_po_co, n_po_sp]
    refine lv_istore (lv' := [(6, .int v), (0, .ref b), (1, .ref px), (2, .ref pm), (3, .ref po), (4, .ref pd), (5, .int (nI (4 * k)))]) hx hb dL_law_1144 hl (by decide) rfl (fun ls hl => ?_)
    refine lv_aload_n hx hb dL_law_1146 rfl (lv_at hl 3 rfl) ?_
    refine lv_aload_n hx hb dL_law_1147 rfl (lv_at hl 1 rfl) ?_
    refine lv_iload hx hb dL_law_1148 (lv_at hl 6 rfl) ?_
    refine lv_iconst (v := 1) hx hb dL_law_1150 (by decide) ?_
    refine lv_iadd hx hb dL_law_1151 ?_
    rw [show nI (4 * k) + 1 = nI (4 * k + 1) from nI_add _ _]
    refine va_sld hx hb hX hbl hbA hI.2.1 (vp_in_nI (show 4 * k + 1 < N from by omega) (by omega)) dL_law_1152 ?_
    refine lv_aload_n hx hb dL_law_1153 rfl (lv_at hl 1 rfl) ?_
    refine lv_iload hx hb dL_law_1154 (lv_at hl 6 rfl) ?_
    refine lv_iconst (v := 2) hx hb dL_law_1156 (by decide) ?_
    refine lv_iadd hx hb dL_law_1157 ?_
    rw [show nI (4 * k) + 2 = nI (4 * k + 2) from nI_add _ _]
    refine va_sld hx hb hX hbl hbA hI.2.1 (vp_in_nI (show 4 * k + 2 < N from by omega) (by omega)) dL_law_1158 ?_
    obtain ⟨⟨hkx, hkm, hkq, hkO, hkS, hkC, hkT⟩, ⟨hR, hO, hS9, hC, hT⟩, ⟨htM, htb⟩, lc, eC, nC, mC, cf, lt, eT, nT, mT, tf, hMo, hCo, hTh⟩ := id hz
    refine z_ci hI (va_runV (As := [.int (xs (nI (4 * k + 1)).toNatClampNeg), .int (xs (nI (4 * k + 2)).toNatClampNeg)]) (rest := []) ⟨hx, hb, hml, hown, hts⟩ (c_X11_request l D tc z0 _ κ g1 _ pm hkm (xs (nI (4 * k + 1)).toNatClampNeg) (xs (nI (4 * k + 2)).toNatClampNeg)  n9 k9 ((hgm 18).trans (a0.symm.trans hn9)) ((hgm 13).trans (a1.symm.trans hk9))) (cwV 2 hts gL_law_X11_request rfl rfl rfl (by decide +kernel) ⟨Nat.le_of_ble_eq_true rfl, Nat.le_of_ble_eq_true rfl⟩) (z_preV (Xc := []) hK hE hI [] rfl rfl (z_recv hK hI hkm rfl rfl)) rfl rfl hl.1 rfl (lv_room (Nat.le_of_ble_eq_true rfl)) dL_law_1159 ⟨(show 60 + 20 * k + 37 * t + 1 + 0 ≤ 841393 from by omega), (show 400 + 120 * k + 162 * t + 6 + 0 ≤ 6571924 from by omega)⟩) (fun w u H locs hw hI => ?_)
    rcases hw with ⟨w0, w1, hu⟩ | ⟨w0, w1, w2, hu⟩ | ⟨w0, w1, w2, w3, hu⟩ | ⟨w1, w2, w3, w0, hu⟩
    · exact absurd q1 w1
    · exact absurd q2 w2
    · exact absurd (Int32.lt_of_lt_of_le q3 w3) Int32.lt_irrefl
    · cases hu
      have hJ : zJ κ (zup (zup (zup (zup g1 pm 12 (.int 0)) pm 13 (.int (xs (nI (4 * k + 1)).toNatClampNeg))) pm 16 (.int (xs (nI (4 * k + 1)).toNatClampNeg))) pm 18 (.int (n9 + 1))) z0 px pm rq co sp aC aT t := ⟨(((hz.upM (by decide)).upM (by decide)).upM (by decide)).upM (by decide), (by unfold zAg; subst hg1; simp [zup, n_px_pm, n_px_rq, n_px_co, n_px_sp, n_px_po, n_pm_px, n_pm_rq, n_pm_co, n_pm_sp, n_pm_po, n_rq_px, n_rq_pm, n_rq_co, n_rq_sp, n_rq_po, n_co_px, n_co_pm, n_co_rq, n_co_sp, n_co_po, n_sp_px, n_sp_pm, n_sp_rq, n_sp_co, n_sp_po, n_po_px, n_po_pm, n_po_rq, n_po_co, n_po_sp, a0, a1, a2, a3, a4, a5, a6, a7])⟩
      have hI : zI D tc (zA [] [] s.heap.size) s.heap [] L κ (zup (zup (zup (zup g1 pm 12 (.int 0)) pm 13 (.int (xs (nI (4 * k + 1)).toNatClampNeg))) pm 16 (.int (xs (nI (4 * k + 1)).toNatClampNeg))) pm 18 (.int (n9 + 1))) H locs := hI
      generalize (zup (zup (zup (zup g1 pm 12 (.int 0)) pm 13 (.int (xs (nI (4 * k + 1)).toNatClampNeg))) pm 16 (.int (xs (nI (4 * k + 1)).toNatClampNeg))) pm 18 (.int (n9 + 1))) = g3 at hI hJ
      refine lv_istore (lv' := [(7, .int w), (6, .int v), (0, .ref b), (1, .ref px), (2, .ref pm), (3, .ref po), (4, .ref pd), (5, .int (nI (4 * k)))]) hx hb dL_law_1162 hl (by decide) rfl (fun ls hl => ?_)
      refine lv_goto (tgt := 1392) hx hb dL_law_1164 (by decide) ?_
      have hl := lv_sub hl [2, 3, 4, 5, 6, 7] (l' := [(0, .ref b), (1, .ref px), (2, .ref pm), (3, .ref po), (4, .ref pd), (5, .int (nI (4 * k)))]) rfl
      refine W.widen (k := 60 + 20 * (k + 1) + 37 * t) (n := 400 + 120 * (k + 1) + 162 * t) (by omega) (by omega) ?_
      refine W.base ?_
      exact hN s.drawn L κ g3 _ _ _ _ (Drawn.sameBut.refl _ _) hJ hko hkd hI hl
  · rcases hp with ⟨_, q1, hp⟩ | ⟨_, q1, q2, hp⟩ | ⟨q0, _⟩
    · cases hp
      have n_px_pm : px ≠ pm := z_apart hkx hkm (by decide)
      have n_px_rq : px ≠ rq := z_apart hkx hkq (by decide)
      have n_px_co : px ≠ co := z_apart hkx hkO (by decide)
      have n_px_sp : px ≠ sp := z_apart hkx hkS (by decide)
      have n_px_po : px ≠ po := z_apart hkx hko (by decide)
      have n_pm_px : pm ≠ px := z_apart hkm hkx (by decide)
      have n_pm_rq : pm ≠ rq := z_apart hkm hkq (by decide)
      have n_pm_co : pm ≠ co := z_apart hkm hkO (by decide)
      have n_pm_sp : pm ≠ sp := z_apart hkm hkS (by decide)
      have n_pm_po : pm ≠ po := z_apart hkm hko (by decide)
      have n_rq_px : rq ≠ px := z_apart hkq hkx (by decide)
      have n_rq_pm : rq ≠ pm := z_apart hkq hkm (by decide)
      have n_rq_co : rq ≠ co := z_apart hkq hkO (by decide)
      have n_rq_sp : rq ≠ sp := z_apart hkq hkS (by decide)
      have n_rq_po : rq ≠ po := z_apart hkq hko (by decide)
      have n_co_px : co ≠ px := z_apart hkO hkx (by decide)
      have n_co_pm : co ≠ pm := z_apart hkO hkm (by decide)
      have n_co_rq : co ≠ rq := z_apart hkO hkq (by decide)
      have n_co_sp : co ≠ sp := z_apart hkO hkS (by decide)
      have n_co_po : co ≠ po := z_apart hkO hko (by decide)
      have n_sp_px : sp ≠ px := z_apart hkS hkx (by decide)
      have n_sp_pm : sp ≠ pm := z_apart hkS hkm (by decide)
      have n_sp_rq : sp ≠ rq := z_apart hkS hkq (by decide)
      have n_sp_co : sp ≠ co := z_apart hkS hkO (by decide)
      have n_sp_po : sp ≠ po := z_apart hkS hko (by decide)
      have n_po_px : po ≠ px := z_apart hko hkx (by decide)
      have n_po_pm : po ≠ pm := z_apart hko hkm (by decide)
      have n_po_rq : po ≠ rq := z_apart hko hkq (by decide)
      have n_po_co : po ≠ co := z_apart hko hkO (by decide)
      have n_po_sp : po ≠ sp := z_apart hko hkS (by decide)
      have hz : zLc κ (zup g rq 6 (.int 110)) z0 px pm rq co sp aC aT t := hJ.1.up hkq (by decide)
      have hI : zI D tc (zA [] [] s.heap.size) s.heap [] L κ (zup g rq 6 (.int 110)) H locs := hI
      obtain ⟨g1, hg1⟩ : ∃ x, x = (zup g rq 6 (.int 110)) := ⟨_, rfl⟩
      rw [← hg1] at hI hz
      have hgm : ∀ j, g1 pm j = g pm j := fun j => by subst hg1; simp [zup, n_px_pm, n_px_rq, n_px_co, n_px_sp, n_px_po, n_pm_px, n_pm_rq, n_pm_co, n_pm_sp, n_pm_po, n_rq_px, n_rq_pm, n_rq_co, n_rq_sp, n_rq_po, n_co_px, n_co_pm, n_co_rq, n_co_sp, n_co_po, n_sp_px, n_sp_pm, n_sp_rq, n_sp_co, n_sp_po, n_po_px, n_po_pm, n_po_rq, n_po_co, n_po_sp]
      refine lv_istore (lv' := [(6, .int v), (0, .ref b), (1, .ref px), (2, .ref pm), (3, .ref po), (4, .ref pd), (5, .int (nI (4 * k)))]) hx hb dL_law_1144 hl (by decide) rfl (fun ls hl => ?_)
      refine lv_aload_n hx hb dL_law_1146 rfl (lv_at hl 3 rfl) ?_
      refine lv_aload_n hx hb dL_law_1147 rfl (lv_at hl 1 rfl) ?_
      refine lv_iload hx hb dL_law_1148 (lv_at hl 6 rfl) ?_
      refine lv_iconst (v := 1) hx hb dL_law_1150 (by decide) ?_
      refine lv_iadd hx hb dL_law_1151 ?_
      rw [show nI (4 * k) + 1 = nI (4 * k + 1) from nI_add _ _]
      refine va_sld hx hb hX hbl hbA hI.2.1 (vp_in_nI (show 4 * k + 1 < N from by omega) (by omega)) dL_law_1152 ?_
      refine lv_aload_n hx hb dL_law_1153 rfl (lv_at hl 1 rfl) ?_
      refine lv_iload hx hb dL_law_1154 (lv_at hl 6 rfl) ?_
      refine lv_iconst (v := 2) hx hb dL_law_1156 (by decide) ?_
      refine lv_iadd hx hb dL_law_1157 ?_
      rw [show nI (4 * k) + 2 = nI (4 * k + 2) from nI_add _ _]
      refine va_sld hx hb hX hbl hbA hI.2.1 (vp_in_nI (show 4 * k + 2 < N from by omega) (by omega)) dL_law_1158 ?_
      obtain ⟨⟨hkx, hkm, hkq, hkO, hkS, hkC, hkT⟩, ⟨hR, hO, hS9, hC, hT⟩, ⟨htM, htb⟩, lc, eC, nC, mC, cf, lt, eT, nT, mT, tf, hMo, hCo, hTh⟩ := id hz
      refine z_ci hI (va_runV (As := [.int (xs (nI (4 * k + 1)).toNatClampNeg), .int (xs (nI (4 * k + 2)).toNatClampNeg)]) (rest := []) ⟨hx, hb, hml, hown, hts⟩ (c_X11_request l D tc z0 _ κ g1 _ pm hkm (xs (nI (4 * k + 1)).toNatClampNeg) (xs (nI (4 * k + 2)).toNatClampNeg)  n9 k9 ((hgm 18).trans (a0.symm.trans hn9)) ((hgm 13).trans (a1.symm.trans hk9))) (cwV 2 hts gL_law_X11_request rfl rfl rfl (by decide +kernel) ⟨Nat.le_of_ble_eq_true rfl, Nat.le_of_ble_eq_true rfl⟩) (z_preV (Xc := []) hK hE hI [] rfl rfl (z_recv hK hI hkm rfl rfl)) rfl rfl hl.1 rfl (lv_room (Nat.le_of_ble_eq_true rfl)) dL_law_1159 ⟨(show 60 + 20 * k + 37 * t + 1 + 0 ≤ 841393 from by omega), (show 400 + 120 * k + 162 * t + 6 + 0 ≤ 6571924 from by omega)⟩) (fun w u H locs hw hI => ?_)
      rcases hw with ⟨w0, w1, hu⟩ | ⟨w0, w1, w2, hu⟩ | ⟨w0, w1, w2, w3, hu⟩ | ⟨w1, w2, w3, w0, hu⟩
      · cases hu
        have hJ : zJ κ (zup (zup g1 pm 12 (.int 1)) pm 26 (.int 110)) z0 px pm rq co sp aC aT t := ⟨(hz.upM (by decide)).upM (by decide), (by unfold zAg; subst hg1; simp [zup, n_px_pm, n_px_rq, n_px_co, n_px_sp, n_px_po, n_pm_px, n_pm_rq, n_pm_co, n_pm_sp, n_pm_po, n_rq_px, n_rq_pm, n_rq_co, n_rq_sp, n_rq_po, n_co_px, n_co_pm, n_co_rq, n_co_sp, n_co_po, n_sp_px, n_sp_pm, n_sp_rq, n_sp_co, n_sp_po, n_po_px, n_po_pm, n_po_rq, n_po_co, n_po_sp, a0, a1, a2, a3, a4, a5, a6, a7])⟩
        have hI : zI D tc (zA [] [] s.heap.size) s.heap [] L κ (zup (zup g1 pm 12 (.int 1)) pm 26 (.int 110)) H locs := hI
        generalize (zup (zup g1 pm 12 (.int 1)) pm 26 (.int 110)) = g3 at hI hJ
        refine lv_istore (lv' := [(7, .int w), (6, .int v), (0, .ref b), (1, .ref px), (2, .ref pm), (3, .ref po), (4, .ref pd), (5, .int (nI (4 * k)))]) hx hb dL_law_1162 hl (by decide) rfl (fun ls hl => ?_)
        refine lv_goto (tgt := 1392) hx hb dL_law_1164 (by decide) ?_
        have hl := lv_sub hl [2, 3, 4, 5, 6, 7] (l' := [(0, .ref b), (1, .ref px), (2, .ref pm), (3, .ref po), (4, .ref pd), (5, .int (nI (4 * k)))]) rfl
        refine W.widen (k := 60 + 20 * (k + 1) + 37 * t) (n := 400 + 120 * (k + 1) + 162 * t) (by omega) (by omega) ?_
        refine W.base ?_
        exact hN s.drawn L κ g3 _ _ _ _ (Drawn.sameBut.refl _ _) hJ hko hkd hI hl
      · exact absurd w1 q1
      · exact absurd w1 q1
      · exact absurd w1 q1
    · cases hp
      have n_px_pm : px ≠ pm := z_apart hkx hkm (by decide)
      have n_px_rq : px ≠ rq := z_apart hkx hkq (by decide)
      have n_px_co : px ≠ co := z_apart hkx hkO (by decide)
      have n_px_sp : px ≠ sp := z_apart hkx hkS (by decide)
      have n_px_po : px ≠ po := z_apart hkx hko (by decide)
      have n_pm_px : pm ≠ px := z_apart hkm hkx (by decide)
      have n_pm_rq : pm ≠ rq := z_apart hkm hkq (by decide)
      have n_pm_co : pm ≠ co := z_apart hkm hkO (by decide)
      have n_pm_sp : pm ≠ sp := z_apart hkm hkS (by decide)
      have n_pm_po : pm ≠ po := z_apart hkm hko (by decide)
      have n_rq_px : rq ≠ px := z_apart hkq hkx (by decide)
      have n_rq_pm : rq ≠ pm := z_apart hkq hkm (by decide)
      have n_rq_co : rq ≠ co := z_apart hkq hkO (by decide)
      have n_rq_sp : rq ≠ sp := z_apart hkq hkS (by decide)
      have n_rq_po : rq ≠ po := z_apart hkq hko (by decide)
      have n_co_px : co ≠ px := z_apart hkO hkx (by decide)
      have n_co_pm : co ≠ pm := z_apart hkO hkm (by decide)
      have n_co_rq : co ≠ rq := z_apart hkO hkq (by decide)
      have n_co_sp : co ≠ sp := z_apart hkO hkS (by decide)
      have n_co_po : co ≠ po := z_apart hkO hko (by decide)
      have n_sp_px : sp ≠ px := z_apart hkS hkx (by decide)
      have n_sp_pm : sp ≠ pm := z_apart hkS hkm (by decide)
      have n_sp_rq : sp ≠ rq := z_apart hkS hkq (by decide)
      have n_sp_co : sp ≠ co := z_apart hkS hkO (by decide)
      have n_sp_po : sp ≠ po := z_apart hkS hko (by decide)
      have n_po_px : po ≠ px := z_apart hko hkx (by decide)
      have n_po_pm : po ≠ pm := z_apart hko hkm (by decide)
      have n_po_rq : po ≠ rq := z_apart hko hkq (by decide)
      have n_po_co : po ≠ co := z_apart hko hkO (by decide)
      have n_po_sp : po ≠ sp := z_apart hko hkS (by decide)
      have hz : zLc κ (zup g rq 6 (.int 118)) z0 px pm rq co sp aC aT t := hJ.1.up hkq (by decide)
      have hI : zI D tc (zA [] [] s.heap.size) s.heap [] L κ (zup g rq 6 (.int 118)) H locs := hI
      obtain ⟨g1, hg1⟩ : ∃ x, x = (zup g rq 6 (.int 118)) := ⟨_, rfl⟩
      rw [← hg1] at hI hz
      have hgm : ∀ j, g1 pm j = g pm j := fun j => by subst hg1; simp [zup, n_px_pm, n_px_rq, n_px_co, n_px_sp, n_px_po, n_pm_px, n_pm_rq, n_pm_co, n_pm_sp, n_pm_po, n_rq_px, n_rq_pm, n_rq_co, n_rq_sp, n_rq_po, n_co_px, n_co_pm, n_co_rq, n_co_sp, n_co_po, n_sp_px, n_sp_pm, n_sp_rq, n_sp_co, n_sp_po, n_po_px, n_po_pm, n_po_rq, n_po_co, n_po_sp]
      refine lv_istore (lv' := [(6, .int v), (0, .ref b), (1, .ref px), (2, .ref pm), (3, .ref po), (4, .ref pd), (5, .int (nI (4 * k)))]) hx hb dL_law_1144 hl (by decide) rfl (fun ls hl => ?_)
      refine lv_aload_n hx hb dL_law_1146 rfl (lv_at hl 3 rfl) ?_
      refine lv_aload_n hx hb dL_law_1147 rfl (lv_at hl 1 rfl) ?_
      refine lv_iload hx hb dL_law_1148 (lv_at hl 6 rfl) ?_
      refine lv_iconst (v := 1) hx hb dL_law_1150 (by decide) ?_
      refine lv_iadd hx hb dL_law_1151 ?_
      rw [show nI (4 * k) + 1 = nI (4 * k + 1) from nI_add _ _]
      refine va_sld hx hb hX hbl hbA hI.2.1 (vp_in_nI (show 4 * k + 1 < N from by omega) (by omega)) dL_law_1152 ?_
      refine lv_aload_n hx hb dL_law_1153 rfl (lv_at hl 1 rfl) ?_
      refine lv_iload hx hb dL_law_1154 (lv_at hl 6 rfl) ?_
      refine lv_iconst (v := 2) hx hb dL_law_1156 (by decide) ?_
      refine lv_iadd hx hb dL_law_1157 ?_
      rw [show nI (4 * k) + 2 = nI (4 * k + 2) from nI_add _ _]
      refine va_sld hx hb hX hbl hbA hI.2.1 (vp_in_nI (show 4 * k + 2 < N from by omega) (by omega)) dL_law_1158 ?_
      obtain ⟨⟨hkx, hkm, hkq, hkO, hkS, hkC, hkT⟩, ⟨hR, hO, hS9, hC, hT⟩, ⟨htM, htb⟩, lc, eC, nC, mC, cf, lt, eT, nT, mT, tf, hMo, hCo, hTh⟩ := id hz
      refine z_ci hI (va_runV (As := [.int (xs (nI (4 * k + 1)).toNatClampNeg), .int (xs (nI (4 * k + 2)).toNatClampNeg)]) (rest := []) ⟨hx, hb, hml, hown, hts⟩ (c_X11_request l D tc z0 _ κ g1 _ pm hkm (xs (nI (4 * k + 1)).toNatClampNeg) (xs (nI (4 * k + 2)).toNatClampNeg)  n9 k9 ((hgm 18).trans (a0.symm.trans hn9)) ((hgm 13).trans (a1.symm.trans hk9))) (cwV 2 hts gL_law_X11_request rfl rfl rfl (by decide +kernel) ⟨Nat.le_of_ble_eq_true rfl, Nat.le_of_ble_eq_true rfl⟩) (z_preV (Xc := []) hK hE hI [] rfl rfl (z_recv hK hI hkm rfl rfl)) rfl rfl hl.1 rfl (lv_room (Nat.le_of_ble_eq_true rfl)) dL_law_1159 ⟨(show 60 + 20 * k + 37 * t + 1 + 0 ≤ 841393 from by omega), (show 400 + 120 * k + 162 * t + 6 + 0 ≤ 6571924 from by omega)⟩) (fun w u H locs hw hI => ?_)
      rcases hw with ⟨w0, w1, hu⟩ | ⟨w0, w1, w2, hu⟩ | ⟨w0, w1, w2, w3, hu⟩ | ⟨w1, w2, w3, w0, hu⟩
      · exact absurd q1 w1
      · cases hu
        have hJ : zJ κ (zup (zup g1 pm 12 (.int 1)) pm 26 (.int 118)) z0 px pm rq co sp aC aT t := ⟨(hz.upM (by decide)).upM (by decide), (by unfold zAg; subst hg1; simp [zup, n_px_pm, n_px_rq, n_px_co, n_px_sp, n_px_po, n_pm_px, n_pm_rq, n_pm_co, n_pm_sp, n_pm_po, n_rq_px, n_rq_pm, n_rq_co, n_rq_sp, n_rq_po, n_co_px, n_co_pm, n_co_rq, n_co_sp, n_co_po, n_sp_px, n_sp_pm, n_sp_rq, n_sp_co, n_sp_po, n_po_px, n_po_pm, n_po_rq, n_po_co, n_po_sp, a0, a1, a2, a3, a4, a5, a6, a7])⟩
        have hI : zI D tc (zA [] [] s.heap.size) s.heap [] L κ (zup (zup g1 pm 12 (.int 1)) pm 26 (.int 118)) H locs := hI
        generalize (zup (zup g1 pm 12 (.int 1)) pm 26 (.int 118)) = g3 at hI hJ
        refine lv_istore (lv' := [(7, .int w), (6, .int v), (0, .ref b), (1, .ref px), (2, .ref pm), (3, .ref po), (4, .ref pd), (5, .int (nI (4 * k)))]) hx hb dL_law_1162 hl (by decide) rfl (fun ls hl => ?_)
        refine lv_goto (tgt := 1392) hx hb dL_law_1164 (by decide) ?_
        have hl := lv_sub hl [2, 3, 4, 5, 6, 7] (l' := [(0, .ref b), (1, .ref px), (2, .ref pm), (3, .ref po), (4, .ref pd), (5, .int (nI (4 * k)))]) rfl
        refine W.widen (k := 60 + 20 * (k + 1) + 37 * t) (n := 400 + 120 * (k + 1) + 162 * t) (by omega) (by omega) ?_
        refine W.base ?_
        exact hN s.drawn L κ g3 _ _ _ _ (Drawn.sameBut.refl _ _) hJ hko hkd hI hl
      · exact absurd w2 q2
      · exact absurd w2 q2
    · exact absurd q0 (by decide)
  · rcases hp with ⟨q0, _⟩ | ⟨q0, _⟩ | ⟨_, q1, q2, q3, hp⟩
    · exact absurd q0 (by decide)
    · exact absurd q0 (by decide)
    · cases hp
      have n_px_pm : px ≠ pm := z_apart hkx hkm (by decide)
      have n_px_rq : px ≠ rq := z_apart hkx hkq (by decide)
      have n_px_co : px ≠ co := z_apart hkx hkO (by decide)
      have n_px_sp : px ≠ sp := z_apart hkx hkS (by decide)
      have n_px_po : px ≠ po := z_apart hkx hko (by decide)
      have n_pm_px : pm ≠ px := z_apart hkm hkx (by decide)
      have n_pm_rq : pm ≠ rq := z_apart hkm hkq (by decide)
      have n_pm_co : pm ≠ co := z_apart hkm hkO (by decide)
      have n_pm_sp : pm ≠ sp := z_apart hkm hkS (by decide)
      have n_pm_po : pm ≠ po := z_apart hkm hko (by decide)
      have n_rq_px : rq ≠ px := z_apart hkq hkx (by decide)
      have n_rq_pm : rq ≠ pm := z_apart hkq hkm (by decide)
      have n_rq_co : rq ≠ co := z_apart hkq hkO (by decide)
      have n_rq_sp : rq ≠ sp := z_apart hkq hkS (by decide)
      have n_rq_po : rq ≠ po := z_apart hkq hko (by decide)
      have n_co_px : co ≠ px := z_apart hkO hkx (by decide)
      have n_co_pm : co ≠ pm := z_apart hkO hkm (by decide)
      have n_co_rq : co ≠ rq := z_apart hkO hkq (by decide)
      have n_co_sp : co ≠ sp := z_apart hkO hkS (by decide)
      have n_co_po : co ≠ po := z_apart hkO hko (by decide)
      have n_sp_px : sp ≠ px := z_apart hkS hkx (by decide)
      have n_sp_pm : sp ≠ pm := z_apart hkS hkm (by decide)
      have n_sp_rq : sp ≠ rq := z_apart hkS hkq (by decide)
      have n_sp_co : sp ≠ co := z_apart hkS hkO (by decide)
      have n_sp_po : sp ≠ po := z_apart hkS hko (by decide)
      have n_po_px : po ≠ px := z_apart hko hkx (by decide)
      have n_po_pm : po ≠ pm := z_apart hko hkm (by decide)
      have n_po_rq : po ≠ rq := z_apart hko hkq (by decide)
      have n_po_co : po ≠ co := z_apart hko hkO (by decide)
      have n_po_sp : po ≠ sp := z_apart hko hkS (by decide)
      have hz : zLc κ (zup g rq 6 (.int 115)) z0 px pm rq co sp aC aT t := hJ.1.up hkq (by decide)
      have hI : zI D tc (zA [] [] s.heap.size) s.heap [] L κ (zup g rq 6 (.int 115)) H locs := hI
      obtain ⟨g1, hg1⟩ : ∃ x, x = (zup g rq 6 (.int 115)) := ⟨_, rfl⟩
      rw [← hg1] at hI hz
      have hgm : ∀ j, g1 pm j = g pm j := fun j => by subst hg1; simp [zup, n_px_pm, n_px_rq, n_px_co, n_px_sp, n_px_po, n_pm_px, n_pm_rq, n_pm_co, n_pm_sp, n_pm_po, n_rq_px, n_rq_pm, n_rq_co, n_rq_sp, n_rq_po, n_co_px, n_co_pm, n_co_rq, n_co_sp, n_co_po, n_sp_px, n_sp_pm, n_sp_rq, n_sp_co, n_sp_po, n_po_px, n_po_pm, n_po_rq, n_po_co, n_po_sp]
      refine lv_istore (lv' := [(6, .int v), (0, .ref b), (1, .ref px), (2, .ref pm), (3, .ref po), (4, .ref pd), (5, .int (nI (4 * k)))]) hx hb dL_law_1144 hl (by decide) rfl (fun ls hl => ?_)
      refine lv_aload_n hx hb dL_law_1146 rfl (lv_at hl 3 rfl) ?_
      refine lv_aload_n hx hb dL_law_1147 rfl (lv_at hl 1 rfl) ?_
      refine lv_iload hx hb dL_law_1148 (lv_at hl 6 rfl) ?_
      refine lv_iconst (v := 1) hx hb dL_law_1150 (by decide) ?_
      refine lv_iadd hx hb dL_law_1151 ?_
      rw [show nI (4 * k) + 1 = nI (4 * k + 1) from nI_add _ _]
      refine va_sld hx hb hX hbl hbA hI.2.1 (vp_in_nI (show 4 * k + 1 < N from by omega) (by omega)) dL_law_1152 ?_
      refine lv_aload_n hx hb dL_law_1153 rfl (lv_at hl 1 rfl) ?_
      refine lv_iload hx hb dL_law_1154 (lv_at hl 6 rfl) ?_
      refine lv_iconst (v := 2) hx hb dL_law_1156 (by decide) ?_
      refine lv_iadd hx hb dL_law_1157 ?_
      rw [show nI (4 * k) + 2 = nI (4 * k + 2) from nI_add _ _]
      refine va_sld hx hb hX hbl hbA hI.2.1 (vp_in_nI (show 4 * k + 2 < N from by omega) (by omega)) dL_law_1158 ?_
      obtain ⟨⟨hkx, hkm, hkq, hkO, hkS, hkC, hkT⟩, ⟨hR, hO, hS9, hC, hT⟩, ⟨htM, htb⟩, lc, eC, nC, mC, cf, lt, eT, nT, mT, tf, hMo, hCo, hTh⟩ := id hz
      refine z_ci hI (va_runV (As := [.int (xs (nI (4 * k + 1)).toNatClampNeg), .int (xs (nI (4 * k + 2)).toNatClampNeg)]) (rest := []) ⟨hx, hb, hml, hown, hts⟩ (c_X11_request l D tc z0 _ κ g1 _ pm hkm (xs (nI (4 * k + 1)).toNatClampNeg) (xs (nI (4 * k + 2)).toNatClampNeg)  n9 k9 ((hgm 18).trans (a0.symm.trans hn9)) ((hgm 13).trans (a1.symm.trans hk9))) (cwV 2 hts gL_law_X11_request rfl rfl rfl (by decide +kernel) ⟨Nat.le_of_ble_eq_true rfl, Nat.le_of_ble_eq_true rfl⟩) (z_preV (Xc := []) hK hE hI [] rfl rfl (z_recv hK hI hkm rfl rfl)) rfl rfl hl.1 rfl (lv_room (Nat.le_of_ble_eq_true rfl)) dL_law_1159 ⟨(show 60 + 20 * k + 37 * t + 1 + 0 ≤ 841393 from by omega), (show 400 + 120 * k + 162 * t + 6 + 0 ≤ 6571924 from by omega)⟩) (fun w u H locs hw hI => ?_)
      rcases hw with ⟨w0, w1, hu⟩ | ⟨w0, w1, w2, hu⟩ | ⟨w0, w1, w2, w3, hu⟩ | ⟨w1, w2, w3, w0, hu⟩
      · exact absurd q1 w1
      · exact absurd q2 w2
      · cases hu
        have hJ : zJ κ (zup (zup g1 pm 12 (.int 2)) pm 26 (.int 115)) z0 px pm rq co sp aC aT t := ⟨(hz.upM (by decide)).upM (by decide), (by unfold zAg; subst hg1; simp [zup, n_px_pm, n_px_rq, n_px_co, n_px_sp, n_px_po, n_pm_px, n_pm_rq, n_pm_co, n_pm_sp, n_pm_po, n_rq_px, n_rq_pm, n_rq_co, n_rq_sp, n_rq_po, n_co_px, n_co_pm, n_co_rq, n_co_sp, n_co_po, n_sp_px, n_sp_pm, n_sp_rq, n_sp_co, n_sp_po, n_po_px, n_po_pm, n_po_rq, n_po_co, n_po_sp, a0, a1, a2, a3, a4, a5, a6, a7])⟩
        have hI : zI D tc (zA [] [] s.heap.size) s.heap [] L κ (zup (zup g1 pm 12 (.int 2)) pm 26 (.int 115)) H locs := hI
        generalize (zup (zup g1 pm 12 (.int 2)) pm 26 (.int 115)) = g3 at hI hJ
        refine lv_istore (lv' := [(7, .int w), (6, .int v), (0, .ref b), (1, .ref px), (2, .ref pm), (3, .ref po), (4, .ref pd), (5, .int (nI (4 * k)))]) hx hb dL_law_1162 hl (by decide) rfl (fun ls hl => ?_)
        refine lv_goto (tgt := 1392) hx hb dL_law_1164 (by decide) ?_
        have hl := lv_sub hl [2, 3, 4, 5, 6, 7] (l' := [(0, .ref b), (1, .ref px), (2, .ref pm), (3, .ref po), (4, .ref pd), (5, .int (nI (4 * k)))]) rfl
        refine W.widen (k := 60 + 20 * (k + 1) + 37 * t) (n := 400 + 120 * (k + 1) + 162 * t) (by omega) (by omega) ?_
        refine W.base ?_
        exact hN s.drawn L κ g3 _ _ _ _ (Drawn.sameBut.refl _ _) hJ hko hkd hI hl
      · exact absurd (Int32.lt_of_lt_of_le w3 q3) Int32.lt_irrefl

set_option maxHeartbeats 4000000 in
set_option maxRecDepth 100000 in
theorem k_holds (l : Launch) (hnt : l.stackTraces = false) {p : Program} {e : Env} {s : State} {m : MethodId} {below : List Frame} {meth : Method} {c : Code} {H : Heap} {locs : List Loc} {Q : State → Prop} {D : va_G} {tc : Nat → ClassId} {z0 b N : Nat} {xs : Nat → Int32} {px pm po pd rq co sp aC aT t k : Nat} {L : List Nat} {κ : Nat → Nat} {g : Nat → Nat → Value} {ls : Array Slot} (C : lwC p s m meth c b N xs D tc z0) (hk : 4 * k + 4 ≤ N) (hN8 : N ≤ 2048) (hJ : zJ κ g z0 px pm rq co sp aC aT t) (hko : κ po = 29) (hkd : κ pd = 30) (hI : zI D tc (zA [] [] s.heap.size) s.heap [] L κ g H locs) (hl : lv_has ls 9 [(0, .ref b), (1, .ref px), (2, .ref pm), (3, .ref po), (4, .ref pd), (5, .int (nI (4 * k)))]) (hN : lwN p l e s m below meth c b D tc z0 px pm po pd rq co sp aC aT k Q) : W p l e room_1 s m #[Value.ref b] below meth c H locs (60 + 20 * k + 37 * t) (400 + 120 * k + 162 * t) Q (F0 m 1167 ls []) := by
  obtain ⟨hx, hb, hml, hown, hts, hK, hE, hX, hbl⟩ := C
  have hbA : ¬ zA [] [] s.heap.size b := fun q => by rcases q with q | q | q; exact absurd q List.not_mem_nil; exact absurd q List.not_mem_nil; exact absurd hbl (Nat.not_lt.mpr q)
  have htb9 : t ≤ 9999 := hJ.1.2.2.1.2
  refine lv_aload_n hx hb dL_law_1167 rfl (lv_at hl 1 rfl) ?_
  obtain ⟨⟨⟨hkx, hkm, hkq, hkO, hkS, hkC, hkT⟩, ⟨hR, hO, hS9, hC, hT⟩, ⟨htM, htb⟩, lc, eC, nC, mC, cf, lt, eT, nT, mT, tf, hMo, hCo, hTh⟩, a0, a1, a2, a3, a4, a5, a6, a7⟩ := id hJ
  refine z_ci hI (va_runV (As := []) (rest := []) ⟨hx, hb, hml, hown, hts⟩ (c_X8_holds l D tc z0 _ κ g _ px hkx  rq hR) (cwV 0 hts gL_law_X8_holds rfl rfl rfl (by decide +kernel) ⟨Nat.le_of_ble_eq_true rfl, Nat.le_of_ble_eq_true rfl⟩) (z_preV (Xc := []) hK hE hI [] rfl rfl (z_recv hK hI hkx rfl rfl)) rfl rfl hl.1 rfl (lv_room (Nat.le_of_ble_eq_true rfl)) dL_law_1168 ⟨(show 60 + 20 * k + 37 * t + 0 ≤ 841393 from by omega), (show 400 + 120 * k + 162 * t + 0 ≤ 6571924 from by omega)⟩) (fun v u H locs hw hI => ?_)
  obtain ⟨hhx, rfl⟩ := hw
  have hI : zI D tc (zA [] [] s.heap.size) s.heap [] L κ g H locs := hI
  refine lv_pop hx hb dL_law_1171 rfl ?_
  refine lv_aload_n hx hb dL_law_1172 rfl (lv_at hl 2 rfl) ?_
  obtain ⟨⟨⟨hkx, hkm, hkq, hkO, hkS, hkC, hkT⟩, ⟨hR, hO, hS9, hC, hT⟩, ⟨htM, htb⟩, lc, eC, nC, mC, cf, lt, eT, nT, mT, tf, hMo, hCo, hTh⟩, a0, a1, a2, a3, a4, a5, a6, a7⟩ := id hJ
  refine z_ci hI (va_runV (As := []) (rest := []) ⟨hx, hb, hml, hown, hts⟩ (c_X11_holds l D tc z0 _ κ g _ pm hkm   ) (cwV 0 hts gL_law_X11_holds rfl rfl rfl (by decide +kernel) ⟨Nat.le_of_ble_eq_true rfl, Nat.le_of_ble_eq_true rfl⟩) (z_preV (Xc := []) hK hE hI [] rfl rfl (z_recv hK hI hkm rfl rfl)) rfl rfl hl.1 rfl (lv_room (Nat.le_of_ble_eq_true rfl)) dL_law_1173 ⟨(show 60 + 20 * k + 37 * t + 0 + 0 ≤ 841393 from by omega), (show 400 + 120 * k + 162 * t + 0 + 0 ≤ 6571924 from by omega)⟩) (fun w u H locs hw hI => ?_)
  have hJ0 := hJ
  obtain ⟨hhm, rfl⟩ := hw
  have hJ := hJ.upM (j := 12) (v := .int 0) (by decide)
  have hI : zI D tc (zA [] [] s.heap.size) s.heap [] L κ (zup g pm 12 (.int 0)) H locs := hI
  generalize (zup g pm 12 (.int 0)) = g at hI hJ
  refine lv_pop hx hb dL_law_1176 rfl ?_
  refine lv_goto (tgt := 1392) hx hb dL_law_1177 (by decide) ?_
  have hl := lv_sub hl [0, 1, 2, 3, 4, 5] (l' := [(0, .ref b), (1, .ref px), (2, .ref pm), (3, .ref po), (4, .ref pd), (5, .int (nI (4 * k)))]) rfl
  refine W.widen (k := 60 + 20 * (k + 1) + 37 * t) (n := 400 + 120 * (k + 1) + 162 * t) (by omega) (by omega) ?_
  refine W.base ?_
  exact hN s.drawn L κ g _ _ _ _ (Drawn.sameBut.refl _ _) hJ hko hkd hI hl

set_option maxHeartbeats 4000000 in
set_option maxRecDepth 100000 in
theorem k_why (l : Launch) (hnt : l.stackTraces = false) {p : Program} {e : Env} {s : State} {m : MethodId} {below : List Frame} {meth : Method} {c : Code} {H : Heap} {locs : List Loc} {Q : State → Prop} {D : va_G} {tc : Nat → ClassId} {z0 b N : Nat} {xs : Nat → Int32} {px pm po pd rq co sp aC aT t k : Nat} {L : List Nat} {κ : Nat → Nat} {g : Nat → Nat → Value} {ls : Array Slot} (C : lwC p s m meth c b N xs D tc z0) (hk : 4 * k + 4 ≤ N) (hN8 : N ≤ 2048) (hJ : zJ κ g z0 px pm rq co sp aC aT t) (hko : κ po = 29) (hkd : κ pd = 30) (hI : zI D tc (zA [] [] s.heap.size) s.heap [] L κ g H locs) (hl : lv_has ls 9 [(0, .ref b), (1, .ref px), (2, .ref pm), (3, .ref po), (4, .ref pd), (5, .int (nI (4 * k)))]) (hN : lwN p l e s m below meth c b D tc z0 px pm po pd rq co sp aC aT k Q) : W p l e room_1 s m #[Value.ref b] below meth c H locs (60 + 20 * k + 37 * t) (400 + 120 * k + 162 * t) Q (F0 m 1180 ls []) := by
  obtain ⟨hx, hb, hml, hown, hts, hK, hE, hX, hbl⟩ := C
  have hbA : ¬ zA [] [] s.heap.size b := fun q => by rcases q with q | q | q; exact absurd q List.not_mem_nil; exact absurd q List.not_mem_nil; exact absurd hbl (Nat.not_lt.mpr q)
  have htb9 : t ≤ 9999 := hJ.1.2.2.1.2
  refine lv_aload_n hx hb dL_law_1180 rfl (lv_at hl 1 rfl) ?_
  obtain ⟨⟨⟨hkx, hkm, hkq, hkO, hkS, hkC, hkT⟩, ⟨hR, hO, hS9, hC, hT⟩, ⟨htM, htb⟩, lc, eC, nC, mC, cf, lt, eT, nT, mT, tf, hMo, hCo, hTh⟩, a0, a1, a2, a3, a4, a5, a6, a7⟩ := id hJ
  refine z_ci hI (va_runV (As := []) (rest := []) ⟨hx, hb, hml, hown, hts⟩ (c_X8_why l D tc z0 _ κ g _ px hkx  rq hR) (cwV 0 hts gL_law_X8_why rfl rfl rfl (by decide +kernel) ⟨Nat.le_of_ble_eq_true rfl, Nat.le_of_ble_eq_true rfl⟩) (z_preV (Xc := []) hK hE hI [] rfl rfl (z_recv hK hI hkx rfl rfl)) rfl rfl hl.1 rfl (lv_room (Nat.le_of_ble_eq_true rfl)) dL_law_1181 ⟨(show 60 + 20 * k + 37 * t + 0 ≤ 841393 from by omega), (show 400 + 120 * k + 162 * t + 0 ≤ 6571924 from by omega)⟩) (fun v u H locs hw hI => ?_)
  obtain ⟨hwy, rfl⟩ := hw
  have hI : zI D tc (zA [] [] s.heap.size) s.heap [] L κ g H locs := hI
  refine lv_pop hx hb dL_law_1184 rfl ?_
  refine lv_aload_n hx hb dL_law_1185 rfl (lv_at hl 2 rfl) ?_
  obtain ⟨⟨⟨hkx, hkm, hkq, hkO, hkS, hkC, hkT⟩, ⟨hR, hO, hS9, hC, hT⟩, ⟨htM, htb⟩, lc, eC, nC, mC, cf, lt, eT, nT, mT, tf, hMo, hCo, hTh⟩, a0, a1, a2, a3, a4, a5, a6, a7⟩ := id hJ
  refine z_ci hI (va_runV (As := []) (rest := []) ⟨hx, hb, hml, hown, hts⟩ (c_X11_why l D tc z0 _ κ g _ pm hkm   ) (cwV 0 hts gL_law_X11_why rfl rfl rfl (by decide +kernel) ⟨Nat.le_of_ble_eq_true rfl, Nat.le_of_ble_eq_true rfl⟩) (z_preV (Xc := []) hK hE hI [] rfl rfl (z_recv hK hI hkm rfl rfl)) rfl rfl hl.1 rfl (lv_room (Nat.le_of_ble_eq_true rfl)) dL_law_1186 ⟨(show 60 + 20 * k + 37 * t + 0 + 0 ≤ 841393 from by omega), (show 400 + 120 * k + 162 * t + 0 + 0 ≤ 6571924 from by omega)⟩) (fun w u H locs hw hI => ?_)
  have hJ0 := hJ
  obtain ⟨hwm, rfl⟩ := hw
  have hJ := hJ.upM (j := 12) (v := .int 0) (by decide)
  have hI : zI D tc (zA [] [] s.heap.size) s.heap [] L κ (zup g pm 12 (.int 0)) H locs := hI
  generalize (zup g pm 12 (.int 0)) = g at hI hJ
  refine lv_pop hx hb dL_law_1189 rfl ?_
  refine lv_goto (tgt := 1392) hx hb dL_law_1190 (by decide) ?_
  have hl := lv_sub hl [0, 1, 2, 3, 4, 5] (l' := [(0, .ref b), (1, .ref px), (2, .ref pm), (3, .ref po), (4, .ref pd), (5, .int (nI (4 * k)))]) rfl
  refine W.widen (k := 60 + 20 * (k + 1) + 37 * t) (n := 400 + 120 * (k + 1) + 162 * t) (by omega) (by omega) ?_
  refine W.base ?_
  exact hN s.drawn L κ g _ _ _ _ (Drawn.sameBut.refl _ _) hJ hko hkd hI hl

set_option maxHeartbeats 4000000 in
set_option maxRecDepth 100000 in
theorem k_drop (l : Launch) (hnt : l.stackTraces = false) {p : Program} {e : Env} {s : State} {m : MethodId} {below : List Frame} {meth : Method} {c : Code} {H : Heap} {locs : List Loc} {Q : State → Prop} {D : va_G} {tc : Nat → ClassId} {z0 b N : Nat} {xs : Nat → Int32} {px pm po pd rq co sp aC aT t k : Nat} {L : List Nat} {κ : Nat → Nat} {g : Nat → Nat → Value} {ls : Array Slot} (C : lwC p s m meth c b N xs D tc z0) (hk : 4 * k + 4 ≤ N) (hN8 : N ≤ 2048) (hJ : zJ κ g z0 px pm rq co sp aC aT t) (hko : κ po = 29) (hkd : κ pd = 30) (hI : zI D tc (zA [] [] s.heap.size) s.heap [] L κ g H locs) (hl : lv_has ls 9 [(0, .ref b), (1, .ref px), (2, .ref pm), (3, .ref po), (4, .ref pd), (5, .int (nI (4 * k)))]) (hN : lwN p l e s m below meth c b D tc z0 px pm po pd rq co sp aC aT k Q) : W p l e room_1 s m #[Value.ref b] below meth c H locs (60 + 20 * k + 37 * t) (400 + 120 * k + 162 * t) Q (F0 m 1193 ls []) := by
  obtain ⟨hx, hb, hml, hown, hts, hK, hE, hX, hbl⟩ := C
  have hbA : ¬ zA [] [] s.heap.size b := fun q => by rcases q with q | q | q; exact absurd q List.not_mem_nil; exact absurd q List.not_mem_nil; exact absurd hbl (Nat.not_lt.mpr q)
  have htb9 : t ≤ 9999 := hJ.1.2.2.1.2
  refine lv_aload_n hx hb dL_law_1193 rfl (lv_at hl 1 rfl) ?_
  obtain ⟨⟨⟨hkx, hkm, hkq, hkO, hkS, hkC, hkT⟩, ⟨hR, hO, hS9, hC, hT⟩, ⟨htM, htb⟩, lc, eC, nC, mC, cf, lt, eT, nT, mT, tf, hMo, hCo, hTh⟩, a0, a1, a2, a3, a4, a5, a6, a7⟩ := id hJ
  obtain ⟨h9, hh9⟩ := z_gi (j := 2) hI hkq rfl rfl
  obtain ⟨w9, hw9⟩ := z_gi (j := 4) hI hkq rfl rfl
  refine z_ci hI (va_runV (As := []) (rest := []) ⟨hx, hb, hml, hown, hts⟩ (c_X8_drop l D tc z0 _ κ g _ px hkx  rq hR h9 w9 hh9 hw9) (cwV 0 hts gL_law_X8_drop rfl rfl rfl (by decide +kernel) ⟨Nat.le_of_ble_eq_true rfl, Nat.le_of_ble_eq_true rfl⟩) (z_preV (Xc := []) hK hE hI [] rfl rfl (z_recv hK hI hkx rfl rfl)) rfl rfl hl.1 rfl (lv_room (Nat.le_of_ble_eq_true rfl)) dL_law_1194 ⟨(show 60 + 20 * k + 37 * t + 0 ≤ 841393 from by omega), (show 400 + 120 * k + 162 * t + 0 ≤ 6571924 from by omega)⟩) (fun v u H locs hw hI => ?_)
  obtain ⟨rfl, hr1⟩ := hw
  have n_px_pm : px ≠ pm := z_apart hkx hkm (by decide)
  have n_px_rq : px ≠ rq := z_apart hkx hkq (by decide)
  have n_px_co : px ≠ co := z_apart hkx hkO (by decide)
  have n_px_sp : px ≠ sp := z_apart hkx hkS (by decide)
  have n_px_po : px ≠ po := z_apart hkx hko (by decide)
  have n_pm_px : pm ≠ px := z_apart hkm hkx (by decide)
  have n_pm_rq : pm ≠ rq := z_apart hkm hkq (by decide)
  have n_pm_co : pm ≠ co := z_apart hkm hkO (by decide)
  have n_pm_sp : pm ≠ sp := z_apart hkm hkS (by decide)
  have n_pm_po : pm ≠ po := z_apart hkm hko (by decide)
  have n_rq_px : rq ≠ px := z_apart hkq hkx (by decide)
  have n_rq_pm : rq ≠ pm := z_apart hkq hkm (by decide)
  have n_rq_co : rq ≠ co := z_apart hkq hkO (by decide)
  have n_rq_sp : rq ≠ sp := z_apart hkq hkS (by decide)
  have n_rq_po : rq ≠ po := z_apart hkq hko (by decide)
  have n_co_px : co ≠ px := z_apart hkO hkx (by decide)
  have n_co_pm : co ≠ pm := z_apart hkO hkm (by decide)
  have n_co_rq : co ≠ rq := z_apart hkO hkq (by decide)
  have n_co_sp : co ≠ sp := z_apart hkO hkS (by decide)
  have n_co_po : co ≠ po := z_apart hkO hko (by decide)
  have n_sp_px : sp ≠ px := z_apart hkS hkx (by decide)
  have n_sp_pm : sp ≠ pm := z_apart hkS hkm (by decide)
  have n_sp_rq : sp ≠ rq := z_apart hkS hkq (by decide)
  have n_sp_co : sp ≠ co := z_apart hkS hkO (by decide)
  have n_sp_po : sp ≠ po := z_apart hkS hko (by decide)
  have n_po_px : po ≠ px := z_apart hko hkx (by decide)
  have n_po_pm : po ≠ pm := z_apart hko hkm (by decide)
  have n_po_rq : po ≠ rq := z_apart hko hkq (by decide)
  have n_po_co : po ≠ co := z_apart hko hkO (by decide)
  have n_po_sp : po ≠ sp := z_apart hko hkS (by decide)
  have hz : zLc κ (zup (zup g rq 2 (.int 0)) rq 4 (.int 0)) z0 px pm rq co sp aC aT t := (hJ.1.up hkq (by decide)).up hkq (by decide)
  have hI : zI D tc (zA [] [] s.heap.size) s.heap [] L κ (zup (zup g rq 2 (.int 0)) rq 4 (.int 0)) H locs := hI
  obtain ⟨g1, hg1⟩ : ∃ x, x = (zup (zup g rq 2 (.int 0)) rq 4 (.int 0)) := ⟨_, rfl⟩
  rw [← hg1] at hI hz
  have hgm : ∀ j, g1 pm j = g pm j := fun j => by subst hg1; simp [zup, n_px_pm, n_px_rq, n_px_co, n_px_sp, n_px_po, n_pm_px, n_pm_rq, n_pm_co, n_pm_sp, n_pm_po, n_rq_px, n_rq_pm, n_rq_co, n_rq_sp, n_rq_po, n_co_px, n_co_pm, n_co_rq, n_co_sp, n_co_po, n_sp_px, n_sp_pm, n_sp_rq, n_sp_co, n_sp_po, n_po_px, n_po_pm, n_po_rq, n_po_co, n_po_sp]
  refine lv_pop hx hb dL_law_1197 rfl ?_
  refine lv_aload_n hx hb dL_law_1198 rfl (lv_at hl 2 rfl) ?_
  obtain ⟨⟨hkx, hkm, hkq, hkO, hkS, hkC, hkT⟩, ⟨hR, hO, hS9, hC, hT⟩, ⟨htM, htb⟩, lc, eC, nC, mC, cf, lt, eT, nT, mT, tf, hMo, hCo, hTh⟩ := id hz
  refine z_ci hI (va_runV (As := []) (rest := []) ⟨hx, hb, hml, hown, hts⟩ (c_X11_drop l D tc z0 _ κ g1 _ pm hkm   h9 w9 ((hgm 14).trans (a2.symm.trans hh9)) ((hgm 16).trans (a3.symm.trans hw9))) (cwV 0 hts gL_law_X11_drop rfl rfl rfl (by decide +kernel) ⟨Nat.le_of_ble_eq_true rfl, Nat.le_of_ble_eq_true rfl⟩) (z_preV (Xc := []) hK hE hI [] rfl rfl (z_recv hK hI hkm rfl rfl)) rfl rfl hl.1 rfl (lv_room (Nat.le_of_ble_eq_true rfl)) dL_law_1199 ⟨(show 60 + 20 * k + 37 * t + 0 + 0 ≤ 841393 from by omega), (show 400 + 120 * k + 162 * t + 0 + 0 ≤ 6571924 from by omega)⟩) (fun w u H locs hw hI => ?_)
  obtain ⟨hr2, rfl⟩ := hw
  have hJ : zJ κ (zup (zup (zup g1 pm 12 (.int 0)) pm 14 (.int 0)) pm 16 (.int 0)) z0 px pm rq co sp aC aT t := ⟨((hz.upM (by decide)).upM (by decide)).upM (by decide), (by unfold zAg; subst hg1; simp [zup, n_px_pm, n_px_rq, n_px_co, n_px_sp, n_px_po, n_pm_px, n_pm_rq, n_pm_co, n_pm_sp, n_pm_po, n_rq_px, n_rq_pm, n_rq_co, n_rq_sp, n_rq_po, n_co_px, n_co_pm, n_co_rq, n_co_sp, n_co_po, n_sp_px, n_sp_pm, n_sp_rq, n_sp_co, n_sp_po, n_po_px, n_po_pm, n_po_rq, n_po_co, n_po_sp, a0, a1, a2, a3, a4, a5, a6, a7])⟩
  have hI : zI D tc (zA [] [] s.heap.size) s.heap [] L κ (zup (zup (zup g1 pm 12 (.int 0)) pm 14 (.int 0)) pm 16 (.int 0)) H locs := hI
  generalize (zup (zup (zup g1 pm 12 (.int 0)) pm 14 (.int 0)) pm 16 (.int 0)) = g3 at hI hJ
  refine lv_pop hx hb dL_law_1202 rfl ?_
  refine lv_goto (tgt := 1392) hx hb dL_law_1203 (by decide) ?_
  have hl := lv_sub hl [0, 1, 2, 3, 4, 5] (l' := [(0, .ref b), (1, .ref px), (2, .ref pm), (3, .ref po), (4, .ref pd), (5, .int (nI (4 * k)))]) rfl
  refine W.widen (k := 60 + 20 * (k + 1) + 37 * t) (n := 400 + 120 * (k + 1) + 162 * t) (by omega) (by omega) ?_
  refine W.base ?_
  exact hN s.drawn L κ g3 _ _ _ _ (Drawn.sameBut.refl _ _) hJ hko hkd hI hl

set_option maxHeartbeats 4000000 in
set_option maxRecDepth 100000 in
theorem k_age (l : Launch) (hnt : l.stackTraces = false) {p : Program} {e : Env} {s : State} {m : MethodId} {below : List Frame} {meth : Method} {c : Code} {H : Heap} {locs : List Loc} {Q : State → Prop} {D : va_G} {tc : Nat → ClassId} {z0 b N : Nat} {xs : Nat → Int32} {px pm po pd rq co sp aC aT t k : Nat} {L : List Nat} {κ : Nat → Nat} {g : Nat → Nat → Value} {ls : Array Slot} (C : lwC p s m meth c b N xs D tc z0) (hk : 4 * k + 4 ≤ N) (hN8 : N ≤ 2048) (hJ : zJ κ g z0 px pm rq co sp aC aT t) (hko : κ po = 29) (hkd : κ pd = 30) (hI : zI D tc (zA [] [] s.heap.size) s.heap [] L κ g H locs) (hl : lv_has ls 9 [(0, .ref b), (1, .ref px), (2, .ref pm), (3, .ref po), (4, .ref pd), (5, .int (nI (4 * k)))]) (hN : lwN p l e s m below meth c b D tc z0 px pm po pd rq co sp aC aT k Q) : W p l e room_1 s m #[Value.ref b] below meth c H locs (60 + 20 * k + 37 * t) (400 + 120 * k + 162 * t) Q (F0 m 1206 ls []) := by
  obtain ⟨hx, hb, hml, hown, hts, hK, hE, hX, hbl⟩ := C
  have hbA : ¬ zA [] [] s.heap.size b := fun q => by rcases q with q | q | q; exact absurd q List.not_mem_nil; exact absurd q List.not_mem_nil; exact absurd hbl (Nat.not_lt.mpr q)
  have htb9 : t ≤ 9999 := hJ.1.2.2.1.2
  refine lv_aload_n hx hb dL_law_1206 rfl (lv_at hl 1 rfl) ?_
  refine lv_aload_n hx hb dL_law_1207 rfl (lv_at hl 0 rfl) ?_
  refine lv_iload hx hb dL_law_1208 (lv_at hl 5 rfl) ?_
  refine lv_iconst (v := 1) hx hb dL_law_1210 (by decide) ?_
  refine lv_iadd hx hb dL_law_1211 ?_
  rw [show nI (4 * k) + 1 = nI (4 * k + 1) from nI_add _ _]
  refine va_sld hx hb hX hbl hbA hI.2.1 (vp_in_nI (show 4 * k + 1 < N from by omega) (by omega)) dL_law_1212 ?_
  refine lv_aload_n hx hb dL_law_1213 rfl (lv_at hl 3 rfl) ?_
  obtain ⟨⟨⟨hkx, hkm, hkq, hkO, hkS, hkC, hkT⟩, ⟨hR, hO, hS9, hC, hT⟩, ⟨htM, htb⟩, lc, eC, nC, mC, cf, lt, eT, nT, mT, tf, hMo, hCo, hTh⟩, a0, a1, a2, a3, a4, a5, a6, a7⟩ := id hJ
  refine z_xi hI (vx_runSX (As := [.ref px, .int (xs (nI (4 * k + 1)).toNatClampNeg), .ref po]) (rest := []) ⟨hx, hb, hml, hown, hts⟩ (c_L_age l hnt D tc z0 _ κ g _ px hkx (xs (nI (4 * k + 1)).toNatClampNeg) po hko aC hC) (vx_cwSW 3 hts gL_law_L_age rfl rfl rfl (by decide +kernel) ⟨Nat.le_of_ble_eq_true rfl, Nat.le_of_ble_eq_true rfl⟩) (z_pre (Xc := []) hK hE hI [] rfl rfl) rfl rfl hl.1 rfl (lv_room (Nat.le_of_ble_eq_true rfl)) dL_law_1214 ⟨(show 60 + 20 * k + 37 * t + 1 ≤ 841393 from by omega), (show 400 + 120 * k + 162 * t + 6 ≤ 6571924 from by omega)⟩) (fun E ce q9 u H locs hw hI he1 he2 he3 => hw.elim) (fun v u H locs hw hI => ?_)
  obtain ⟨L1, κ1, g1⟩ := u
  have hI : zI D tc (zA [] [] s.heap.size) s.heap [] L1 κ1 g1 H locs := hI
  have hJ : zJ κ1 g1 z0 px pm rq co sp aC aT t ∧ κ1 po = 29 ∧ κ1 pd = 30 := by
    rcases hw with ⟨_, r1, u1, v9, hp, hv9, hu⟩ | ⟨_, hp⟩
    · cases hu
      obtain ⟨_, hp⟩ := hp
      cases hp
      exact ⟨hJ.up hko (by decide), hko, hkd⟩
    · obtain ⟨_, hp⟩ := hp
      cases hp
      exact ⟨hJ, hko, hkd⟩
  obtain ⟨hJ, hko, hkd⟩ := hJ
  clear hw
  obtain ⟨L, rfl⟩ : ∃ x, x = L1 := ⟨_, rfl⟩
  obtain ⟨κ, rfl⟩ : ∃ x, x = κ1 := ⟨_, rfl⟩
  obtain ⟨g, rfl⟩ : ∃ x, x = g1 := ⟨_, rfl⟩
  refine lv_istore (lv' := [(6, .int v), (0, .ref b), (1, .ref px), (2, .ref pm), (3, .ref po), (4, .ref pd), (5, .int (nI (4 * k)))]) hx hb dL_law_1217 hl (by decide) rfl (fun ls hl => ?_)
  refine lv_aload_n hx hb dL_law_1219 rfl (lv_at hl 3 rfl) ?_
  refine lv_aload_n hx hb dL_law_1220 rfl (lv_at hl 1 rfl) ?_
  refine lv_iload hx hb dL_law_1221 (lv_at hl 6 rfl) ?_
  refine lv_iconst (v := 1) hx hb dL_law_1223 (by decide) ?_
  refine lv_iadd hx hb dL_law_1224 ?_
  rw [show nI (4 * k) + 1 = nI (4 * k + 1) from nI_add _ _]
  refine va_sld hx hb hX hbl hbA hI.2.1 (vp_in_nI (show 4 * k + 1 < N from by omega) (by omega)) dL_law_1225 ?_
  obtain ⟨⟨⟨hkx, hkm, hkq, hkO, hkS, hkC, hkT⟩, ⟨hR, hO, hS9, hC, hT⟩, ⟨htM, htb⟩, lc, eC, nC, mC, cf, lt, eT, nT, mT, tf, hMo, hCo, hTh⟩, a0, a1, a2, a3, a4, a5, a6, a7⟩ := id hJ
  refine z_ci hI (va_runV (As := [.int (xs (nI (4 * k + 1)).toNatClampNeg)]) (rest := []) ⟨hx, hb, hml, hown, hts⟩ (c_X11_age l D tc z0 _ κ g _ pm hkm (xs (nI (4 * k + 1)).toNatClampNeg) lc eC nC mC cf lt eT nT mT tf hMo ) (cwV 1 hts gL_law_X11_age rfl rfl rfl (by decide +kernel) ⟨Nat.le_of_ble_eq_true rfl, Nat.le_of_ble_eq_true rfl⟩) (z_preV (Xc := []) hK hE hI [] rfl rfl (z_recv hK hI hkm rfl rfl)) rfl rfl hl.1 rfl (lv_room (Nat.le_of_ble_eq_true rfl)) dL_law_1226 ⟨(show 60 + 20 * k + 37 * t + 1 + 0 ≤ 841393 from by omega), (show 400 + 120 * k + 162 * t + 6 + 0 ≤ 6571924 from by omega)⟩) (fun w u H locs hw hI => ?_)
  obtain ⟨x9, rfl⟩ := hw
  have hJ := hJ.upM (j := 12) (v := .int x9) (by decide)
  have hI : zI D tc (zA [] [] s.heap.size) s.heap [] L κ (zup g pm 12 (.int x9)) H locs := hI
  generalize (zup g pm 12 (.int x9)) = g at hI hJ
  refine lv_istore (lv' := [(7, .int w), (6, .int v), (0, .ref b), (1, .ref px), (2, .ref pm), (3, .ref po), (4, .ref pd), (5, .int (nI (4 * k)))]) hx hb dL_law_1229 hl (by decide) rfl (fun ls hl => ?_)
  refine lv_goto (tgt := 1392) hx hb dL_law_1231 (by decide) ?_
  have hl := lv_sub hl [2, 3, 4, 5, 6, 7] (l' := [(0, .ref b), (1, .ref px), (2, .ref pm), (3, .ref po), (4, .ref pd), (5, .int (nI (4 * k)))]) rfl
  refine W.widen (k := 60 + 20 * (k + 1) + 37 * t) (n := 400 + 120 * (k + 1) + 162 * t) (by omega) (by omega) ?_
  refine W.base ?_
  exact hN s.drawn L κ g _ _ _ _ (Drawn.sameBut.refl _ _) hJ hko hkd hI hl

set_option maxHeartbeats 4000000 in
set_option maxRecDepth 100000 in
theorem k_isRetired (l : Launch) (hnt : l.stackTraces = false) {p : Program} {e : Env} {s : State} {m : MethodId} {below : List Frame} {meth : Method} {c : Code} {H : Heap} {locs : List Loc} {Q : State → Prop} {D : va_G} {tc : Nat → ClassId} {z0 b N : Nat} {xs : Nat → Int32} {px pm po pd rq co sp aC aT t k : Nat} {L : List Nat} {κ : Nat → Nat} {g : Nat → Nat → Value} {ls : Array Slot} (C : lwC p s m meth c b N xs D tc z0) (hk : 4 * k + 4 ≤ N) (hN8 : N ≤ 2048) (hJ : zJ κ g z0 px pm rq co sp aC aT t) (hko : κ po = 29) (hkd : κ pd = 30) (hI : zI D tc (zA [] [] s.heap.size) s.heap [] L κ g H locs) (hl : lv_has ls 9 [(0, .ref b), (1, .ref px), (2, .ref pm), (3, .ref po), (4, .ref pd), (5, .int (nI (4 * k)))]) (hN : lwN p l e s m below meth c b D tc z0 px pm po pd rq co sp aC aT k Q) : W p l e room_1 s m #[Value.ref b] below meth c H locs (60 + 20 * k + 37 * t) (400 + 120 * k + 162 * t) Q (F0 m 1234 ls []) := by
  obtain ⟨hx, hb, hml, hown, hts, hK, hE, hX, hbl⟩ := C
  have hbA : ¬ zA [] [] s.heap.size b := fun q => by rcases q with q | q | q; exact absurd q List.not_mem_nil; exact absurd q List.not_mem_nil; exact absurd hbl (Nat.not_lt.mpr q)
  have htb9 : t ≤ 9999 := hJ.1.2.2.1.2
  refine lv_aload_n hx hb dL_law_1234 rfl (lv_at hl 1 rfl) ?_
  refine lv_aload_n hx hb dL_law_1235 rfl (lv_at hl 0 rfl) ?_
  refine lv_iload hx hb dL_law_1236 (lv_at hl 5 rfl) ?_
  refine lv_iconst (v := 1) hx hb dL_law_1238 (by decide) ?_
  refine lv_iadd hx hb dL_law_1239 ?_
  rw [show nI (4 * k) + 1 = nI (4 * k + 1) from nI_add _ _]
  refine va_sld hx hb hX hbl hbA hI.2.1 (vp_in_nI (show 4 * k + 1 < N from by omega) (by omega)) dL_law_1240 ?_
  refine lv_aload_n hx hb dL_law_1241 rfl (lv_at hl 3 rfl) ?_
  obtain ⟨⟨⟨hkx, hkm, hkq, hkO, hkS, hkC, hkT⟩, ⟨hR, hO, hS9, hC, hT⟩, ⟨htM, htb⟩, lc, eC, nC, mC, cf, lt, eT, nT, mT, tf, hMo, hCo, hTh⟩, a0, a1, a2, a3, a4, a5, a6, a7⟩ := id hJ
  refine z_xi hI (vx_runSX (As := [.ref px, .int (xs (nI (4 * k + 1)).toNatClampNeg), .ref po]) (rest := []) ⟨hx, hb, hml, hown, hts⟩ (c_L_isRetired l hnt D tc z0 _ κ g _ px hkx (xs (nI (4 * k + 1)).toNatClampNeg) po hko aC hC) (vx_cwSW 3 hts gL_law_L_isRetired rfl rfl rfl (by decide +kernel) ⟨Nat.le_of_ble_eq_true rfl, Nat.le_of_ble_eq_true rfl⟩) (z_pre (Xc := []) hK hE hI [] rfl rfl) rfl rfl hl.1 rfl (lv_room (Nat.le_of_ble_eq_true rfl)) dL_law_1242 ⟨(show 60 + 20 * k + 37 * t + 1 ≤ 841393 from by omega), (show 400 + 120 * k + 162 * t + 6 ≤ 6571924 from by omega)⟩) (fun E ce q9 u H locs hw hI he1 he2 he3 => hw.elim) (fun v u H locs hw hI => ?_)
  obtain ⟨L1, κ1, g1⟩ := u
  have hI : zI D tc (zA [] [] s.heap.size) s.heap [] L1 κ1 g1 H locs := hI
  have hJ : zJ κ1 g1 z0 px pm rq co sp aC aT t ∧ κ1 po = 29 ∧ κ1 pd = 30 := by
    rcases hw with ⟨_, r1, u1, v9, hp, hv9, hu⟩ | ⟨_, hp⟩
    · cases hu
      obtain ⟨_, hp⟩ := hp
      cases hp
      exact ⟨hJ.up hko (by decide), hko, hkd⟩
    · obtain ⟨_, hp⟩ := hp
      cases hp
      exact ⟨hJ, hko, hkd⟩
  obtain ⟨hJ, hko, hkd⟩ := hJ
  clear hw
  obtain ⟨L, rfl⟩ : ∃ x, x = L1 := ⟨_, rfl⟩
  obtain ⟨κ, rfl⟩ : ∃ x, x = κ1 := ⟨_, rfl⟩
  obtain ⟨g, rfl⟩ : ∃ x, x = g1 := ⟨_, rfl⟩
  refine lv_istore (lv' := [(6, .int v), (0, .ref b), (1, .ref px), (2, .ref pm), (3, .ref po), (4, .ref pd), (5, .int (nI (4 * k)))]) hx hb dL_law_1245 hl (by decide) rfl (fun ls hl => ?_)
  refine lv_aload_n hx hb dL_law_1247 rfl (lv_at hl 3 rfl) ?_
  refine lv_aload_n hx hb dL_law_1248 rfl (lv_at hl 1 rfl) ?_
  refine lv_iload hx hb dL_law_1249 (lv_at hl 6 rfl) ?_
  refine lv_iconst (v := 1) hx hb dL_law_1251 (by decide) ?_
  refine lv_iadd hx hb dL_law_1252 ?_
  rw [show nI (4 * k) + 1 = nI (4 * k + 1) from nI_add _ _]
  refine va_sld hx hb hX hbl hbA hI.2.1 (vp_in_nI (show 4 * k + 1 < N from by omega) (by omega)) dL_law_1253 ?_
  obtain ⟨⟨⟨hkx, hkm, hkq, hkO, hkS, hkC, hkT⟩, ⟨hR, hO, hS9, hC, hT⟩, ⟨htM, htb⟩, lc, eC, nC, mC, cf, lt, eT, nT, mT, tf, hMo, hCo, hTh⟩, a0, a1, a2, a3, a4, a5, a6, a7⟩ := id hJ
  refine z_ci hI (va_runV (As := [.int (xs (nI (4 * k + 1)).toNatClampNeg)]) (rest := []) ⟨hx, hb, hml, hown, hts⟩ (c_X11_isRetired l D tc z0 _ κ g _ pm hkm (xs (nI (4 * k + 1)).toNatClampNeg) lc eC nC mC cf lt eT nT mT tf hMo ) (cwV 1 hts gL_law_X11_isRetired rfl rfl rfl (by decide +kernel) ⟨Nat.le_of_ble_eq_true rfl, Nat.le_of_ble_eq_true rfl⟩) (z_preV (Xc := []) hK hE hI [] rfl rfl (z_recv hK hI hkm rfl rfl)) rfl rfl hl.1 rfl (lv_room (Nat.le_of_ble_eq_true rfl)) dL_law_1254 ⟨(show 60 + 20 * k + 37 * t + 1 + 0 ≤ 841393 from by omega), (show 400 + 120 * k + 162 * t + 6 + 0 ≤ 6571924 from by omega)⟩) (fun w u H locs hw hI => ?_)
  obtain ⟨x9, rfl⟩ := hw
  have hJ := hJ.upM (j := 12) (v := .int x9) (by decide)
  have hI : zI D tc (zA [] [] s.heap.size) s.heap [] L κ (zup g pm 12 (.int x9)) H locs := hI
  generalize (zup g pm 12 (.int x9)) = g at hI hJ
  refine lv_istore (lv' := [(7, .int w), (6, .int v), (0, .ref b), (1, .ref px), (2, .ref pm), (3, .ref po), (4, .ref pd), (5, .int (nI (4 * k)))]) hx hb dL_law_1257 hl (by decide) rfl (fun ls hl => ?_)
  refine lv_goto (tgt := 1392) hx hb dL_law_1259 (by decide) ?_
  have hl := lv_sub hl [2, 3, 4, 5, 6, 7] (l' := [(0, .ref b), (1, .ref px), (2, .ref pm), (3, .ref po), (4, .ref pd), (5, .int (nI (4 * k)))]) rfl
  refine W.widen (k := 60 + 20 * (k + 1) + 37 * t) (n := 400 + 120 * (k + 1) + 162 * t) (by omega) (by omega) ?_
  refine W.base ?_
  exact hN s.drawn L κ g _ _ _ _ (Drawn.sameBut.refl _ _) hJ hko hkd hI hl

set_option maxHeartbeats 4000000 in
set_option maxRecDepth 100000 in
theorem k_wear (l : Launch) (hnt : l.stackTraces = false) {p : Program} {e : Env} {s : State} {m : MethodId} {below : List Frame} {meth : Method} {c : Code} {H : Heap} {locs : List Loc} {Q : State → Prop} {D : va_G} {tc : Nat → ClassId} {z0 b N : Nat} {xs : Nat → Int32} {px pm po pd rq co sp aC aT t k : Nat} {L : List Nat} {κ : Nat → Nat} {g : Nat → Nat → Value} {ls : Array Slot} (C : lwC p s m meth c b N xs D tc z0) (hk : 4 * k + 4 ≤ N) (hN8 : N ≤ 2048) (hJ : zJ κ g z0 px pm rq co sp aC aT t) (hko : κ po = 29) (hkd : κ pd = 30) (hI : zI D tc (zA [] [] s.heap.size) s.heap [] L κ g H locs) (hl : lv_has ls 9 [(0, .ref b), (1, .ref px), (2, .ref pm), (3, .ref po), (4, .ref pd), (5, .int (nI (4 * k)))]) (hN : lwN p l e s m below meth c b D tc z0 px pm po pd rq co sp aC aT k Q) : W p l e room_1 s m #[Value.ref b] below meth c H locs (60 + 20 * k + 37 * t) (400 + 120 * k + 162 * t) Q (F0 m 1262 ls []) := by
  obtain ⟨hx, hb, hml, hown, hts, hK, hE, hX, hbl⟩ := C
  have hbA : ¬ zA [] [] s.heap.size b := fun q => by rcases q with q | q | q; exact absurd q List.not_mem_nil; exact absurd q List.not_mem_nil; exact absurd hbl (Nat.not_lt.mpr q)
  have htb9 : t ≤ 9999 := hJ.1.2.2.1.2
  refine lv_aload_n hx hb dL_law_1262 rfl (lv_at hl 1 rfl) ?_
  refine lv_aload_n hx hb dL_law_1263 rfl (lv_at hl 0 rfl) ?_
  refine lv_iload hx hb dL_law_1264 (lv_at hl 5 rfl) ?_
  refine lv_iconst (v := 1) hx hb dL_law_1266 (by decide) ?_
  refine lv_iadd hx hb dL_law_1267 ?_
  rw [show nI (4 * k) + 1 = nI (4 * k + 1) from nI_add _ _]
  refine va_sld hx hb hX hbl hbA hI.2.1 (vp_in_nI (show 4 * k + 1 < N from by omega) (by omega)) dL_law_1268 ?_
  refine lv_aload_n hx hb dL_law_1269 rfl (lv_at hl 0 rfl) ?_
  refine lv_iload hx hb dL_law_1270 (lv_at hl 5 rfl) ?_
  refine lv_iconst (v := 2) hx hb dL_law_1272 (by decide) ?_
  refine lv_iadd hx hb dL_law_1273 ?_
  rw [show nI (4 * k) + 2 = nI (4 * k + 2) from nI_add _ _]
  refine va_sld hx hb hX hbl hbA hI.2.1 (vp_in_nI (show 4 * k + 2 < N from by omega) (by omega)) dL_law_1274 ?_
  refine lv_aload_n hx hb dL_law_1275 rfl (lv_at hl 3 rfl) ?_
  obtain ⟨⟨⟨hkx, hkm, hkq, hkO, hkS, hkC, hkT⟩, ⟨hR, hO, hS9, hC, hT⟩, ⟨htM, htb⟩, lc, eC, nC, mC, cf, lt, eT, nT, mT, tf, hMo, hCo, hTh⟩, a0, a1, a2, a3, a4, a5, a6, a7⟩ := id hJ
  refine z_xi hI (vx_runSX (As := [.ref px, .int (xs (nI (4 * k + 1)).toNatClampNeg), .int (xs (nI (4 * k + 2)).toNatClampNeg), .ref po]) (rest := []) ⟨hx, hb, hml, hown, hts⟩ (c_L_wear l hnt D tc z0 _ κ g _ px hkx (xs (nI (4 * k + 1)).toNatClampNeg) (xs (nI (4 * k + 2)).toNatClampNeg) po hko aC hC) (vx_cwSW 4 hts gL_law_L_wear rfl rfl rfl (by decide +kernel) ⟨Nat.le_of_ble_eq_true rfl, Nat.le_of_ble_eq_true rfl⟩) (z_pre (Xc := []) hK hE hI [] rfl rfl) rfl rfl hl.1 rfl (lv_room (Nat.le_of_ble_eq_true rfl)) dL_law_1276 ⟨(show 60 + 20 * k + 37 * t + 2 ≤ 841393 from by omega), (show 400 + 120 * k + 162 * t + 12 ≤ 6571924 from by omega)⟩) (fun E ce q9 u H locs hw hI he1 he2 he3 => hw.elim) (fun v u H locs hw hI => ?_)
  obtain ⟨L1, κ1, g1⟩ := u
  have hI : zI D tc (zA [] [] s.heap.size) s.heap [] L1 κ1 g1 H locs := hI
  have hJ : zJ κ1 g1 z0 px pm rq co sp aC aT t ∧ κ1 po = 29 ∧ κ1 pd = 30 := by
    rcases hw with ⟨_, r1, u1, v9, hp, hv9, hu⟩ | ⟨_, hp⟩ | ⟨_, hp⟩ | ⟨_, hp⟩
    · cases hu
      obtain ⟨_, hp⟩ := hp
      cases hp
      exact ⟨hJ.up hko (by decide), hko, hkd⟩
    · obtain ⟨_, hp⟩ := hp
      cases hp
      exact ⟨hJ, hko, hkd⟩
    · obtain ⟨_, hp⟩ := hp
      cases hp
      exact ⟨hJ, hko, hkd⟩
    · obtain ⟨_, hp⟩ := hp
      cases hp
      exact ⟨hJ, hko, hkd⟩
  obtain ⟨hJ, hko, hkd⟩ := hJ
  clear hw
  obtain ⟨L, rfl⟩ : ∃ x, x = L1 := ⟨_, rfl⟩
  obtain ⟨κ, rfl⟩ : ∃ x, x = κ1 := ⟨_, rfl⟩
  obtain ⟨g, rfl⟩ : ∃ x, x = g1 := ⟨_, rfl⟩
  refine lv_istore (lv' := [(6, .int v), (0, .ref b), (1, .ref px), (2, .ref pm), (3, .ref po), (4, .ref pd), (5, .int (nI (4 * k)))]) hx hb dL_law_1279 hl (by decide) rfl (fun ls hl => ?_)
  refine lv_aload_n hx hb dL_law_1281 rfl (lv_at hl 3 rfl) ?_
  refine lv_aload_n hx hb dL_law_1282 rfl (lv_at hl 1 rfl) ?_
  refine lv_iload hx hb dL_law_1283 (lv_at hl 6 rfl) ?_
  refine lv_iconst (v := 1) hx hb dL_law_1285 (by decide) ?_
  refine lv_iadd hx hb dL_law_1286 ?_
  rw [show nI (4 * k) + 1 = nI (4 * k + 1) from nI_add _ _]
  refine va_sld hx hb hX hbl hbA hI.2.1 (vp_in_nI (show 4 * k + 1 < N from by omega) (by omega)) dL_law_1287 ?_
  refine lv_aload_n hx hb dL_law_1288 rfl (lv_at hl 1 rfl) ?_
  refine lv_iload hx hb dL_law_1289 (lv_at hl 6 rfl) ?_
  refine lv_iconst (v := 2) hx hb dL_law_1291 (by decide) ?_
  refine lv_iadd hx hb dL_law_1292 ?_
  rw [show nI (4 * k) + 2 = nI (4 * k + 2) from nI_add _ _]
  refine va_sld hx hb hX hbl hbA hI.2.1 (vp_in_nI (show 4 * k + 2 < N from by omega) (by omega)) dL_law_1293 ?_
  obtain ⟨⟨⟨hkx, hkm, hkq, hkO, hkS, hkC, hkT⟩, ⟨hR, hO, hS9, hC, hT⟩, ⟨htM, htb⟩, lc, eC, nC, mC, cf, lt, eT, nT, mT, tf, hMo, hCo, hTh⟩, a0, a1, a2, a3, a4, a5, a6, a7⟩ := id hJ
  refine z_ci hI (va_runV (As := [.int (xs (nI (4 * k + 1)).toNatClampNeg), .int (xs (nI (4 * k + 2)).toNatClampNeg)]) (rest := []) ⟨hx, hb, hml, hown, hts⟩ (c_X11_wear l D tc z0 _ κ g _ pm hkm (xs (nI (4 * k + 1)).toNatClampNeg) (xs (nI (4 * k + 2)).toNatClampNeg) lc eC nC mC cf lt eT nT mT tf hMo ) (cwV 2 hts gL_law_X11_wear rfl rfl rfl (by decide +kernel) ⟨Nat.le_of_ble_eq_true rfl, Nat.le_of_ble_eq_true rfl⟩) (z_preV (Xc := []) hK hE hI [] rfl rfl (z_recv hK hI hkm rfl rfl)) rfl rfl hl.1 rfl (lv_room (Nat.le_of_ble_eq_true rfl)) dL_law_1294 ⟨(show 60 + 20 * k + 37 * t + 2 + 0 ≤ 841393 from by omega), (show 400 + 120 * k + 162 * t + 12 + 0 ≤ 6571924 from by omega)⟩) (fun w u H locs hw hI => ?_)
  obtain ⟨x9, rfl⟩ := hw
  have hJ := hJ.upM (j := 12) (v := .int x9) (by decide)
  have hI : zI D tc (zA [] [] s.heap.size) s.heap [] L κ (zup g pm 12 (.int x9)) H locs := hI
  generalize (zup g pm 12 (.int x9)) = g at hI hJ
  refine lv_istore (lv' := [(7, .int w), (6, .int v), (0, .ref b), (1, .ref px), (2, .ref pm), (3, .ref po), (4, .ref pd), (5, .int (nI (4 * k)))]) hx hb dL_law_1297 hl (by decide) rfl (fun ls hl => ?_)
  refine lv_goto (tgt := 1392) hx hb dL_law_1299 (by decide) ?_
  have hl := lv_sub hl [2, 3, 4, 5, 6, 7] (l' := [(0, .ref b), (1, .ref px), (2, .ref pm), (3, .ref po), (4, .ref pd), (5, .int (nI (4 * k)))]) rfl
  refine W.widen (k := 60 + 20 * (k + 1) + 37 * t) (n := 400 + 120 * (k + 1) + 162 * t) (by omega) (by omega) ?_
  refine W.base ?_
  exact hN s.drawn L κ g _ _ _ _ (Drawn.sameBut.refl _ _) hJ hko hkd hI hl

set_option maxHeartbeats 4000000 in
set_option maxRecDepth 100000 in
theorem k_account (l : Launch) (hnt : l.stackTraces = false) {p : Program} {e : Env} {s : State} {m : MethodId} {below : List Frame} {meth : Method} {c : Code} {H : Heap} {locs : List Loc} {Q : State → Prop} {D : va_G} {tc : Nat → ClassId} {z0 b N : Nat} {xs : Nat → Int32} {px pm po pd rq co sp aC aT t k : Nat} {L : List Nat} {κ : Nat → Nat} {g : Nat → Nat → Value} {ls : Array Slot} (C : lwC p s m meth c b N xs D tc z0) (hk : 4 * k + 4 ≤ N) (hN8 : N ≤ 2048) (hJ : zJ κ g z0 px pm rq co sp aC aT t) (hko : κ po = 29) (hkd : κ pd = 30) (hI : zI D tc (zA [] [] s.heap.size) s.heap [] L κ g H locs) (hl : lv_has ls 9 [(0, .ref b), (1, .ref px), (2, .ref pm), (3, .ref po), (4, .ref pd), (5, .int (nI (4 * k)))]) (hN : lwN p l e s m below meth c b D tc z0 px pm po pd rq co sp aC aT k Q) : W p l e room_1 s m #[Value.ref b] below meth c H locs (60 + 20 * k + 37 * t) (400 + 120 * k + 162 * t) Q (F0 m 1302 ls []) := by
  obtain ⟨hx, hb, hml, hown, hts, hK, hE, hX, hbl⟩ := C
  have hbA : ¬ zA [] [] s.heap.size b := fun q => by rcases q with q | q | q; exact absurd q List.not_mem_nil; exact absurd q List.not_mem_nil; exact absurd hbl (Nat.not_lt.mpr q)
  have htb9 : t ≤ 9999 := hJ.1.2.2.1.2
  refine lv_aload_n hx hb dL_law_1302 rfl (lv_at hl 1 rfl) ?_
  refine lv_aload_n hx hb dL_law_1303 rfl (lv_at hl 0 rfl) ?_
  refine lv_iload hx hb dL_law_1304 (lv_at hl 5 rfl) ?_
  refine lv_iconst (v := 1) hx hb dL_law_1306 (by decide) ?_
  refine lv_iadd hx hb dL_law_1307 ?_
  rw [show nI (4 * k) + 1 = nI (4 * k + 1) from nI_add _ _]
  refine va_sld hx hb hX hbl hbA hI.2.1 (vp_in_nI (show 4 * k + 1 < N from by omega) (by omega)) dL_law_1308 ?_
  refine lv_i2c hx hb dL_law_1309 rfl ?_
  refine lv_aload_n hx hb dL_law_1310 rfl (lv_at hl 3 rfl) ?_
  obtain ⟨⟨⟨hkx, hkm, hkq, hkO, hkS, hkC, hkT⟩, ⟨hR, hO, hS9, hC, hT⟩, ⟨htM, htb⟩, lc, eC, nC, mC, cf, lt, eT, nT, mT, tf, hMo, hCo, hTh⟩, a0, a1, a2, a3, a4, a5, a6, a7⟩ := id hJ
  refine z_xi hI (vx_runSX (As := [.ref px, .int (((xs (nI (4 * k + 1)).toNatClampNeg).toUInt32 % 65536).toInt32), .ref po]) (rest := []) ⟨hx, hb, hml, hown, hts⟩ (c_L_account l hnt D tc z0 _ κ g _ px hkx (((xs (nI (4 * k + 1)).toNatClampNeg).toUInt32 % 65536).toInt32) po hko ) (vx_cwSW 3 hts gL_law_L_account rfl rfl rfl (by decide +kernel) ⟨Nat.le_of_ble_eq_true rfl, Nat.le_of_ble_eq_true rfl⟩) (z_pre (Xc := []) hK hE hI [] rfl rfl) rfl rfl hl.1 rfl (lv_room (Nat.le_of_ble_eq_true rfl)) dL_law_1311 ⟨(show 60 + 20 * k + 37 * t + 1 ≤ 841393 from by omega), (show 400 + 120 * k + 162 * t + 6 ≤ 6571924 from by omega)⟩) (fun E ce q9 u H locs hw hI he1 he2 he3 => hw.elim) (fun v u H locs hw hI => ?_)
  obtain ⟨L1, κ1, g1⟩ := u
  have hI : zI D tc (zA [] [] s.heap.size) s.heap [] L1 κ1 g1 H locs := hI
  have hJ : zJ κ1 g1 z0 px pm rq co sp aC aT t ∧ κ1 po = 29 ∧ κ1 pd = 30 := by
    rcases hw with ⟨_, r1, u1, v9, hp, hv9, hu⟩ | ⟨_, hp⟩
    · cases hu
      cases hp
      exact ⟨hJ.up hko (by decide), hko, hkd⟩
    · obtain ⟨_, hp⟩ := hp
      cases hp
      exact ⟨hJ, hko, hkd⟩
  obtain ⟨hJ, hko, hkd⟩ := hJ
  clear hw
  obtain ⟨L, rfl⟩ : ∃ x, x = L1 := ⟨_, rfl⟩
  obtain ⟨κ, rfl⟩ : ∃ x, x = κ1 := ⟨_, rfl⟩
  obtain ⟨g, rfl⟩ : ∃ x, x = g1 := ⟨_, rfl⟩
  refine lv_istore (lv' := [(6, .int v), (0, .ref b), (1, .ref px), (2, .ref pm), (3, .ref po), (4, .ref pd), (5, .int (nI (4 * k)))]) hx hb dL_law_1314 hl (by decide) rfl (fun ls hl => ?_)
  refine lv_aload_n hx hb dL_law_1316 rfl (lv_at hl 3 rfl) ?_
  refine lv_aload_n hx hb dL_law_1317 rfl (lv_at hl 1 rfl) ?_
  refine lv_iload hx hb dL_law_1318 (lv_at hl 6 rfl) ?_
  refine lv_iconst (v := 1) hx hb dL_law_1320 (by decide) ?_
  refine lv_iadd hx hb dL_law_1321 ?_
  rw [show nI (4 * k) + 1 = nI (4 * k + 1) from nI_add _ _]
  refine va_sld hx hb hX hbl hbA hI.2.1 (vp_in_nI (show 4 * k + 1 < N from by omega) (by omega)) dL_law_1322 ?_
  refine lv_i2c hx hb dL_law_1323 rfl ?_
  obtain ⟨⟨⟨hkx, hkm, hkq, hkO, hkS, hkC, hkT⟩, ⟨hR, hO, hS9, hC, hT⟩, ⟨htM, htb⟩, lc, eC, nC, mC, cf, lt, eT, nT, mT, tf, hMo, hCo, hTh⟩, a0, a1, a2, a3, a4, a5, a6, a7⟩ := id hJ
  refine z_cl hI (va_runV (As := [.int (((xs (nI (4 * k + 1)).toNatClampNeg).toUInt32 % 65536).toInt32)]) (rest := []) ⟨hx, hb, hml, hown, hts⟩ (c_X11_account l D tc z0 _ κ g _ pm hkm (((xs (nI (4 * k + 1)).toNatClampNeg).toUInt32 % 65536).toInt32)  ) (cwV 1 hts gL_law_X11_account rfl rfl rfl (by decide +kernel) ⟨Nat.le_of_ble_eq_true rfl, Nat.le_of_ble_eq_true rfl⟩) (z_preV (Xc := []) hK hE hI [] rfl rfl (z_recv hK hI hkm rfl rfl)) rfl rfl hl.1 rfl (lv_room (Nat.le_of_ble_eq_true rfl)) dL_law_1324 ⟨(show 60 + 20 * k + 37 * t + 1 + 1 ≤ 841393 from by omega), (show 400 + 120 * k + 162 * t + 6 + 6 ≤ 6571924 from by omega)⟩) (fun w u H locs hw hI => ?_)
  obtain ⟨x9, rfl⟩ := hw
  have hJ := hJ.upM (j := 12) (v := .int x9) (by decide)
  have hI : zI D tc (zA [] [] s.heap.size) s.heap [] L κ (zup g pm 12 (.int x9)) H locs := hI
  generalize (zup g pm 12 (.int x9)) = g at hI hJ
  refine lv_lstore (lv' := [(7, .long w), (6, .int v), (0, .ref b), (1, .ref px), (2, .ref pm), (3, .ref po), (4, .ref pd), (5, .int (nI (4 * k)))]) hx hb dL_law_1327 hl (by decide) rfl (fun ls hl => ?_)
  refine lv_goto (tgt := 1392) hx hb dL_law_1329 (by decide) ?_
  have hl := lv_sub hl [2, 3, 4, 5, 6, 7] (l' := [(0, .ref b), (1, .ref px), (2, .ref pm), (3, .ref po), (4, .ref pd), (5, .int (nI (4 * k)))]) rfl
  refine W.widen (k := 60 + 20 * (k + 1) + 37 * t) (n := 400 + 120 * (k + 1) + 162 * t) (by omega) (by omega) ?_
  refine W.base ?_
  exact hN s.drawn L κ g _ _ _ _ (Drawn.sameBut.refl _ _) hJ hko hkd hI hl

set_option maxHeartbeats 4000000 in
set_option maxRecDepth 100000 in
theorem k_checksum (l : Launch) (hnt : l.stackTraces = false) {p : Program} {e : Env} {s : State} {m : MethodId} {below : List Frame} {meth : Method} {c : Code} {H : Heap} {locs : List Loc} {Q : State → Prop} {D : va_G} {tc : Nat → ClassId} {z0 b N : Nat} {xs : Nat → Int32} {px pm po pd rq co sp aC aT t k : Nat} {L : List Nat} {κ : Nat → Nat} {g : Nat → Nat → Value} {ls : Array Slot} (C : lwC p s m meth c b N xs D tc z0) (hk : 4 * k + 4 ≤ N) (hN8 : N ≤ 2048) (hJ : zJ κ g z0 px pm rq co sp aC aT t) (hko : κ po = 29) (hkd : κ pd = 30) (hI : zI D tc (zA [] [] s.heap.size) s.heap [] L κ g H locs) (hl : lv_has ls 9 [(0, .ref b), (1, .ref px), (2, .ref pm), (3, .ref po), (4, .ref pd), (5, .int (nI (4 * k)))]) (hN : lwN p l e s m below meth c b D tc z0 px pm po pd rq co sp aC aT k Q) : W p l e room_1 s m #[Value.ref b] below meth c H locs (60 + 20 * k + 37 * t) (400 + 120 * k + 162 * t) Q (F0 m 1332 ls []) := by
  obtain ⟨hx, hb, hml, hown, hts, hK, hE, hX, hbl⟩ := C
  have hbA : ¬ zA [] [] s.heap.size b := fun q => by rcases q with q | q | q; exact absurd q List.not_mem_nil; exact absurd q List.not_mem_nil; exact absurd hbl (Nat.not_lt.mpr q)
  have htb9 : t ≤ 9999 := hJ.1.2.2.1.2
  refine lv_aload_n hx hb dL_law_1332 rfl (lv_at hl 1 rfl) ?_
  obtain ⟨⟨⟨hkx, hkm, hkq, hkO, hkS, hkC, hkT⟩, ⟨hR, hO, hS9, hC, hT⟩, ⟨htM, htb⟩, lc, eC, nC, mC, cf, lt, eT, nT, mT, tf, hMo, hCo, hTh⟩, a0, a1, a2, a3, a4, a5, a6, a7⟩ := id hJ
  refine z_cl hI (va_runV (As := []) (rest := []) ⟨hx, hb, hml, hown, hts⟩ (c_X8_checksum l D tc z0 _ κ g _ px hkx  ) (cwV 0 hts gL_law_X8_checksum rfl rfl rfl (by decide +kernel) ⟨Nat.le_of_ble_eq_true rfl, Nat.le_of_ble_eq_true rfl⟩) (z_preV (Xc := []) hK hE hI [] rfl rfl (z_recv hK hI hkx rfl rfl)) rfl rfl hl.1 rfl (lv_room (Nat.le_of_ble_eq_true rfl)) dL_law_1333 ⟨(show 60 + 20 * k + 37 * t + 0 ≤ 841393 from by omega), (show 400 + 120 * k + 162 * t + 0 ≤ 6571924 from by omega)⟩) (fun v u H locs hw hI => ?_)
  obtain rfl := hw
  have hI : zI D tc (zA [] [] s.heap.size) s.heap [] L κ g H locs := hI
  refine lv_pop2_2 hx hb dL_law_1336 rfl ?_
  refine lv_aload_n hx hb dL_law_1337 rfl (lv_at hl 2 rfl) ?_
  obtain ⟨⟨⟨hkx, hkm, hkq, hkO, hkS, hkC, hkT⟩, ⟨hR, hO, hS9, hC, hT⟩, ⟨htM, htb⟩, lc, eC, nC, mC, cf, lt, eT, nT, mT, tf, hMo, hCo, hTh⟩, a0, a1, a2, a3, a4, a5, a6, a7⟩ := id hJ
  refine z_cl hI (va_runV (As := []) (rest := []) ⟨hx, hb, hml, hown, hts⟩ (c_X11_checksum l D tc z0 _ κ g _ pm hkm  lc eC nC mC cf lt eT nT mT tf hMo ) (cwV 0 hts gL_law_X11_checksum rfl rfl rfl (by decide +kernel) ⟨Nat.le_of_ble_eq_true rfl, Nat.le_of_ble_eq_true rfl⟩) (z_preV (Xc := []) hK hE hI [] rfl rfl (z_recv hK hI hkm rfl rfl)) rfl rfl hl.1 rfl (lv_room (Nat.le_of_ble_eq_true rfl)) dL_law_1338 ⟨(show 60 + 20 * k + 37 * t + 0 + 2 ≤ 841393 from by omega), (show 400 + 120 * k + 162 * t + 0 + 8 ≤ 6571924 from by omega)⟩) (fun w u H locs hw hI => ?_)
  obtain ⟨x9, rfl⟩ := hw
  have hJ := hJ.upM (j := 12) (v := .int x9) (by decide)
  have hI : zI D tc (zA [] [] s.heap.size) s.heap [] L κ (zup g pm 12 (.int x9)) H locs := hI
  generalize (zup g pm 12 (.int x9)) = g at hI hJ
  refine lv_pop2_2 hx hb dL_law_1341 rfl ?_
  refine lv_goto (tgt := 1392) hx hb dL_law_1342 (by decide) ?_
  have hl := lv_sub hl [0, 1, 2, 3, 4, 5] (l' := [(0, .ref b), (1, .ref px), (2, .ref pm), (3, .ref po), (4, .ref pd), (5, .int (nI (4 * k)))]) rfl
  refine W.widen (k := 60 + 20 * (k + 1) + 37 * t) (n := 400 + 120 * (k + 1) + 162 * t) (by omega) (by omega) ?_
  refine W.base ?_
  exact hN s.drawn L κ g _ _ _ _ (Drawn.sameBut.refl _ _) hJ hko hkd hI hl

set_option maxHeartbeats 4000000 in
set_option maxRecDepth 100000 in
theorem k_isSound (l : Launch) (hnt : l.stackTraces = false) {p : Program} {e : Env} {s : State} {m : MethodId} {below : List Frame} {meth : Method} {c : Code} {H : Heap} {locs : List Loc} {Q : State → Prop} {D : va_G} {tc : Nat → ClassId} {z0 b N : Nat} {xs : Nat → Int32} {px pm po pd rq co sp aC aT t k : Nat} {L : List Nat} {κ : Nat → Nat} {g : Nat → Nat → Value} {ls : Array Slot} (C : lwC p s m meth c b N xs D tc z0) (hk : 4 * k + 4 ≤ N) (hN8 : N ≤ 2048) (hJ : zJ κ g z0 px pm rq co sp aC aT t) (hko : κ po = 29) (hkd : κ pd = 30) (hI : zI D tc (zA [] [] s.heap.size) s.heap [] L κ g H locs) (hl : lv_has ls 9 [(0, .ref b), (1, .ref px), (2, .ref pm), (3, .ref po), (4, .ref pd), (5, .int (nI (4 * k)))]) (hN : lwN p l e s m below meth c b D tc z0 px pm po pd rq co sp aC aT k Q) : W p l e room_1 s m #[Value.ref b] below meth c H locs (60 + 20 * k + 37 * t) (400 + 120 * k + 162 * t) Q (F0 m 1379 ls []) := by
  obtain ⟨hx, hb, hml, hown, hts, hK, hE, hX, hbl⟩ := C
  have hbA : ¬ zA [] [] s.heap.size b := fun q => by rcases q with q | q | q; exact absurd q List.not_mem_nil; exact absurd q List.not_mem_nil; exact absurd hbl (Nat.not_lt.mpr q)
  have htb9 : t ≤ 9999 := hJ.1.2.2.1.2
  refine lv_aload_n hx hb dL_law_1379 rfl (lv_at hl 1 rfl) ?_
  obtain ⟨⟨⟨hkx, hkm, hkq, hkO, hkS, hkC, hkT⟩, ⟨hR, hO, hS9, hC, hT⟩, ⟨htM, htb⟩, lc, eC, nC, mC, cf, lt, eT, nT, mT, tf, hMo, hCo, hTh⟩, a0, a1, a2, a3, a4, a5, a6, a7⟩ := id hJ
  refine z_ci hI (va_runV (As := []) (rest := []) ⟨hx, hb, hml, hown, hts⟩ (c_X8_isSound l D tc z0 _ κ g _ px hkx  ) (cwV 0 hts gL_law_X8_isSound rfl rfl rfl (by decide +kernel) ⟨Nat.le_of_ble_eq_true rfl, Nat.le_of_ble_eq_true rfl⟩) (z_preV (Xc := []) hK hE hI [] rfl rfl (z_recv hK hI hkx rfl rfl)) rfl rfl hl.1 rfl (lv_room (Nat.le_of_ble_eq_true rfl)) dL_law_1380 ⟨(show 60 + 20 * k + 37 * t + 0 ≤ 841393 from by omega), (show 400 + 120 * k + 162 * t + 0 ≤ 6571924 from by omega)⟩) (fun v u H locs hw hI => ?_)
  obtain ⟨rfl, -⟩ := hw
  have hI : zI D tc (zA [] [] s.heap.size) s.heap [] L κ g H locs := hI
  refine lv_pop hx hb dL_law_1383 rfl ?_
  refine lv_aload_n hx hb dL_law_1384 rfl (lv_at hl 2 rfl) ?_
  obtain ⟨⟨⟨hkx, hkm, hkq, hkO, hkS, hkC, hkT⟩, ⟨hR, hO, hS9, hC, hT⟩, ⟨htM, htb⟩, lc, eC, nC, mC, cf, lt, eT, nT, mT, tf, hMo, hCo, hTh⟩, a0, a1, a2, a3, a4, a5, a6, a7⟩ := id hJ
  refine z_ci hI (va_runV (As := []) (rest := []) ⟨hx, hb, hml, hown, hts⟩ (c_X11_isSound l D tc z0 _ κ g _ pm hkm   ) (cwV 0 hts gL_law_X11_isSound rfl rfl rfl (by decide +kernel) ⟨Nat.le_of_ble_eq_true rfl, Nat.le_of_ble_eq_true rfl⟩) (z_preV (Xc := []) hK hE hI [] rfl rfl (z_recv hK hI hkm rfl rfl)) rfl rfl hl.1 rfl (lv_room (Nat.le_of_ble_eq_true rfl)) dL_law_1385 ⟨(show 60 + 20 * k + 37 * t + 0 + 0 ≤ 841393 from by omega), (show 400 + 120 * k + 162 * t + 0 + 0 ≤ 6571924 from by omega)⟩) (fun w u H locs hw hI => ?_)
  obtain ⟨x9, rfl⟩ := hw
  have hJ := hJ.upM (j := 12) (v := .int x9) (by decide)
  have hI : zI D tc (zA [] [] s.heap.size) s.heap [] L κ (zup g pm 12 (.int x9)) H locs := hI
  generalize (zup g pm 12 (.int x9)) = g at hI hJ
  refine lv_pop hx hb dL_law_1388 rfl ?_
  refine lv_goto (tgt := 1392) hx hb dL_law_1389 (by decide) ?_
  have hl := lv_sub hl [0, 1, 2, 3, 4, 5] (l' := [(0, .ref b), (1, .ref px), (2, .ref pm), (3, .ref po), (4, .ref pd), (5, .int (nI (4 * k)))]) rfl
  refine W.widen (k := 60 + 20 * (k + 1) + 37 * t) (n := 400 + 120 * (k + 1) + 162 * t) (by omega) (by omega) ?_
  refine W.base ?_
  exact hN s.drawn L κ g _ _ _ _ (Drawn.sameBut.refl _ _) hJ hko hkd hI hl
