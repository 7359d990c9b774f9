/-- the letters of account() -/
def KS9 (x : Int32) : Prop := x = 119 ∨ x = 98 ∨ x = 111 ∨ x = 104 ∨ x = 97 ∨ x = 116
theorem z_ks {x : Int32} {j : Nat} (hj : j < 6) (e : (zSB.getD 1 []).getD j 0 = x) : KS9 x := by
  have key : ∀ j, j < 6 → ((zSB.getD 1 []).getD j 0 = 119 ∨ (zSB.getD 1 []).getD j 0 = 98 ∨ (zSB.getD 1 []).getD j 0 = 111 ∨ (zSB.getD 1 []).getD j 0 = 104 ∨ (zSB.getD 1 []).getD j 0 = 97 ∨ (zSB.getD 1 []).getD j 0 = 116) := by decide +kernel
  have h := key j hj
  rw [e] at h
  exact h

set_option maxHeartbeats 4000000 in
set_option maxRecDepth 100000 in
theorem k_core (l : Launch) (hnt : l.stackTraces = false) {p : Program} {e : Env} {s : State} {m : MethodId} {below : List Frame} {meth : Method} {c : Code} {H : Heap} {locs : List Loc} {Q : State → Prop} {D : va_G} {tc : Nat → ClassId} {z0 b N : Nat} {xs : Nat → Int32} {px pm po pd rq co sp aC aT t k : Nat} {L : List Nat} {κ : Nat → Nat} {g : Nat → Nat → Value} {ls : Array Slot} (C : lwC p s m meth c b N xs D tc z0) (hk : 4 * k + 4 ≤ N) (hN8 : N ≤ 2048) (hJ : zJ κ g z0 px pm rq co sp aC aT t) (h0 : (∀ j, g aC j = .null) ∧ ∀ j, g aT j = .null) (hko : κ po = 29) (hkd : κ pd = 30) (hI : zI D tc (zA [] [] s.heap.size) s.heap [] L κ g H locs) (hl : lv_has ls 9 [(0, .ref b), (1, .ref px), (2, .ref pm), (3, .ref po), (4, .ref pd), (5, .int (nI (4 * k)))]) (hN : lwN p l e s m below meth c b D tc z0 px pm po pd rq co sp aC aT k Q) : W p l e room_1 s m #[Value.ref b] below meth c H locs (60 + 20 * k + 37 * t) (400 + 120 * k + 162 * t) Q (F0 m 224 ls []) := by
  obtain ⟨hx, hb, hml, hown, hts, hK, hE, hX, hbl⟩ := C
  have hbA : ¬ zA [] [] s.heap.size b := fun q => by rcases q with q | q | q; exact absurd q List.not_mem_nil; exact absurd q List.not_mem_nil; exact absurd hbl (Nat.not_lt.mpr q)
  have htb9 : t ≤ 9999 := hJ.1.2.2.1.2
  refine lv_aload_n hx hb dL_law_224 rfl (lv_at hl 1 rfl) ?_
  refine lv_aload_n hx hb dL_law_225 rfl (lv_at hl 0 rfl) ?_
  refine lv_iload hx hb dL_law_226 (lv_at hl 5 rfl) ?_
  refine lv_iconst (v := 1) hx hb dL_law_228 (by decide) ?_
  refine lv_iadd hx hb dL_law_229 ?_
  rw [show nI (4 * k) + 1 = nI (4 * k + 1) from nI_add _ _]
  refine va_sld hx hb hX hbl hbA hI.2.1 (vp_in_nI (show 4 * k + 1 < N from by omega) (by omega)) dL_law_230 ?_
  refine lv_aload_n hx hb dL_law_231 rfl (lv_at hl 0 rfl) ?_
  refine lv_iload hx hb dL_law_232 (lv_at hl 5 rfl) ?_
  refine lv_iconst (v := 2) hx hb dL_law_234 (by decide) ?_
  refine lv_iadd hx hb dL_law_235 ?_
  rw [show nI (4 * k) + 2 = nI (4 * k + 2) from nI_add _ _]
  refine va_sld hx hb hX hbl hbA hI.2.1 (vp_in_nI (show 4 * k + 2 < N from by omega) (by omega)) dL_law_236 ?_
  refine lv_i2c hx hb dL_law_237 rfl ?_
  refine lv_aload_n hx hb dL_law_238 rfl (lv_at hl 3 rfl) ?_
  obtain ⟨⟨⟨hkx, hkm, hkq, hkO, hkS, hkC, hkT⟩, ⟨hR, hO, hS9, hC, hT⟩, ⟨htM, htb⟩, lc, eC, nC, mC, cf, lt, eT, nT, mT, tf, hMo, hCo, hTh⟩, a0, a1, a2, a3, a4, a5, a6, a7⟩ := id hJ
  refine z_xi hI (vx_runSX (As := [.ref px, .int (xs (nI (4 * k + 1)).toNatClampNeg), .int (((xs (nI (4 * k + 2)).toNatClampNeg).toUInt32 % 65536).toInt32), .ref po]) (rest := []) ⟨hx, hb, hml, hown, hts⟩ (c_L_core l hnt D tc z0 _ κ g _ px hkx (xs (nI (4 * k + 1)).toNatClampNeg) (((xs (nI (4 * k + 2)).toNatClampNeg).toUInt32 % 65536).toInt32) po hko aC hC) (vx_cwSW 4 hts gL_law_L_core rfl rfl rfl (by decide +kernel) ⟨Nat.le_of_ble_eq_true rfl, Nat.le_of_ble_eq_true rfl⟩) (z_pre (Xc := []) hK hE hI [] rfl rfl) rfl rfl hl.1 rfl (lv_room (Nat.le_of_ble_eq_true rfl)) dL_law_239 ⟨(show 60 + 20 * k + 37 * t + 7 ≤ 746514 from by omega), (show 400 + 120 * k + 162 * t + 65 ≤ 6862693 from by omega)⟩) (fun E ce q9 u H locs hw hI he1 he2 he3 => hw.elim) (fun v u H locs hw hI => ?_)
  have hbC := hMo.bC
  have hbT := hMo.bT
  rcases hw with ⟨rfl, r1, u1, v9, hp, hv9, hu⟩ | ⟨rfl, hp⟩ | ⟨rfl, hp⟩ | ⟨rfl, hp⟩
  · obtain ⟨L1, κ1, g1⟩ := u1
    obtain ⟨i9, q9, hi9, hr9, qv, qk, hno9, hnl9, hkq9, hxt, h93, h917, hf9⟩ := hp
    dsimp only at hkq9 hxt h93 h917 hu
    cases hu
    have hin : i9 = nC := hCo.first hi9 hno9 hnl9
    rw [hin] at hxt
    have hM1 : zMo κ1 (zup g1 po 0 (.long v9)) z0 pm lc eC nC mC cf lt eT nT mT tf := ((hMo.upO hkC (by decide)).ext hxt).upO (hxt.k hko (by decide)) (by decide)
    have hkm1 : κ1 pm = 13 := hxt.k hkm (by decide)
    have hI : zI D tc (zA [] [] s.heap.size) s.heap [] L1 κ1 (zup g1 po 0 (.long v9)) H locs := hI
    refine lv_istore (lv' := [(6, .int 0), (0, .ref b), (1, .ref px), (2, .ref pm), (3, .ref po), (4, .ref pd), (5, .int (nI (4 * k)))]) hx hb dL_law_242 hl (by decide) rfl (fun ls hl => ?_)
    refine lv_aload_n hx hb dL_law_244 rfl (lv_at hl 3 rfl) ?_
    refine lv_aload_n hx hb dL_law_245 rfl (lv_at hl 1 rfl) ?_
    refine lv_iload hx hb dL_law_246 (lv_at hl 6 rfl) ?_
    refine lv_iconst (v := 1) hx hb dL_law_248 (by decide) ?_
    refine lv_iadd hx hb dL_law_249 ?_
    rw [show nI (4 * k) + 1 = nI (4 * k + 1) from nI_add _ _]
    refine va_sld hx hb hX hbl hbA hI.2.1 (vp_in_nI (show 4 * k + 1 < N from by omega) (by omega)) dL_law_250 ?_
    refine lv_aload_n hx hb dL_law_251 rfl (lv_at hl 1 rfl) ?_
    refine lv_iload hx hb dL_law_252 (lv_at hl 6 rfl) ?_
    refine lv_iconst (v := 2) hx hb dL_law_254 (by decide) ?_
    refine lv_iadd hx hb dL_law_255 ?_
    rw [show nI (4 * k) + 2 = nI (4 * k + 2) from nI_add _ _]
    refine va_sld hx hb hX hbl hbA hI.2.1 (vp_in_nI (show 4 * k + 2 < N from by omega) (by omega)) dL_law_256 ?_
    refine lv_i2c hx hb dL_law_257 rfl ?_
    refine z_ci hI (va_runV (As := [.int (xs (nI (4 * k + 1)).toNatClampNeg), .int (((xs (nI (4 * k + 2)).toNatClampNeg).toUInt32 % 65536).toInt32)]) (rest := []) ⟨hx, hb, hml, hown, hts⟩ (c_X11_core l D tc z0 _ κ1 (zup g1 po 0 (.long v9)) _ pm hkm1 (xs (nI (4 * k + 1)).toNatClampNeg) (((xs (nI (4 * k + 2)).toNatClampNeg).toUInt32 % 65536).toInt32) lc eC nC mC cf lt eT nT mT tf hM1) (cwV 2 hts gL_law_X11_core rfl rfl rfl (by decide +kernel) ⟨Nat.le_of_ble_eq_true rfl, Nat.le_of_ble_eq_true rfl⟩) (z_preV (Xc := []) hK hE hI [] rfl rfl (z_recv hK hI hkm1 rfl rfl)) rfl rfl hl.1 rfl (lv_room (Nat.le_of_ble_eq_true rfl)) dL_law_258 ⟨(show 60 + 20 * k + 37 * t + 7 + 2 ≤ 746514 from by omega), (show 400 + 120 * k + 162 * t + 65 + 29 ≤ 6862693 from by omega)⟩) (fun w u H locs hw hI => ?_)
    rcases hw with ⟨v8, ⟨rfl, w1⟩ | ⟨rfl, w1, w2, w3⟩ | ⟨rfl, w1, w2, w3⟩, w0, hu⟩ | ⟨i8, hi8, hx8, w2, w3, w4, e8, q8, hM9, hk9, h83, h815, h812, hκ9, hg9, hf8⟩
    · exact absurd (z_in3I.mp qv) w1
    · exact absurd qk (fun h => h.elim w2 w3)
    · exact absurd hi9 (by omega)
    · obtain ⟨L2, κ2, g2⟩ := u
      dsimp only at hM9 hk9 h83 h815 h812 hκ9 hg9
      have hko1 : κ1 po = 29 := hxt.k hko (by decide)
      have hkd1 : κ1 pd = 30 := hxt.k hkd (by decide)
      have hrw : r1 = w := hr9.trans (by rw [hin]; exact w4.symm)
      have hpo : g2 po 0 = .long v9 := (hg9 po 0 (by rw [hko1]; decide) (z_apart hko hMo.LC.1 (by decide)) (by rw [hko1]; decide) (fun q => absurd q.2 (by decide))).trans (zup_self _ _ _ _)
      have hcd : g2 pm 12 = .int 0 := h812
      have hJ : zJ κ2 g2 z0 px pm rq co sp aC aT t := zJ.core hJ hCo hTh hxt hkq9 h93 h917 hf9 hko hM9 hMo.LC.1 hk9 h83 h815 hκ9 hg9 hf8
      have hkm := hM9.k
      have hko : κ2 po = 29 := (hκ9 po (by rw [hko1]; decide)).trans hko1
      have hkd : κ2 pd = 30 := (hκ9 pd (by rw [hkd1]; decide)).trans hkd1
      have hI : zI D tc (zA [] [] s.heap.size) s.heap [] L2 κ2 g2 H locs := hI
      obtain ⟨L, rfl⟩ : ∃ x, x = L2 := ⟨_, rfl⟩
      obtain ⟨κ, rfl⟩ : ∃ x, x = κ2 := ⟨_, rfl⟩
      refine lv_istore (lv' := [(7, .int w), (6, .int 0), (0, .ref b), (1, .ref px), (2, .ref pm), (3, .ref po), (4, .ref pd), (5, .int (nI (4 * k)))]) hx hb dL_law_261 hl (by decide) rfl (fun ls hl => ?_)
      refine lv_aload_n hx hb dL_law_263 rfl (lv_at hl 4 rfl) ?_
      refine z_ci hI (va_runV (As := []) (rest := []) ⟨hx, hb, hml, hown, hts⟩ (c_X11_thrown l D tc z0 _ κ g2 _ pm hkm) (cwV 0 hts gL_law_X11_thrown rfl rfl rfl (by decide +kernel) ⟨Nat.le_of_ble_eq_true rfl, Nat.le_of_ble_eq_true rfl⟩) (z_preV (Xc := []) hK hE hI [] rfl rfl (z_recv hK hI hkm rfl rfl)) rfl rfl hl.1 rfl (lv_room (Nat.le_of_ble_eq_true rfl)) dL_law_264 ⟨(show 60 + 20 * k + 37 * t + 7 + 2 + 0 ≤ 746514 from by omega), (show 400 + 120 * k + 162 * t + 65 + 29 + 0 ≤ 6862693 from by omega)⟩) (fun w2 u H locs hw hI => ?_)
      obtain ⟨hw2, rfl⟩ := hw
      have hI : zI D tc (zA [] [] s.heap.size) s.heap [] L κ g2 H locs := hI
      obtain rfl : w2 = 0 := Value.int.inj (hw2.symm.trans hcd)
      refine lv_iload hx hb dL_law_267 (lv_at hl 1 rfl) ?_
      refine lv_icmp_eq (tgt := 274) hx hb dL_law_269 (by decide) (fun _ => ?_) (fun hne => absurd rfl hne)
      refine lv_iload hx hb dL_law_274 (lv_at hl 1 rfl) ?_
      refine lv_if_ne (tgt := 291) hx hb dL_law_276 (by decide) (fun h9 => absurd rfl h9) (fun _ => ?_)
      refine lv_aload_n hx hb dL_law_279 rfl (lv_at hl 5 rfl) ?_
      refine lv_iconst (v := 0) hx hb dL_law_280 (by decide) ?_
      have hM : zM p s m c cL_law #[Value.ref b] wsL_law RL D tc := ⟨hx, hb, hts, hown, hK⟩
      refine z_lald hM hI hko rfl rfl (vp_in_c 0 1 (by decide)) dL_law_281 (fun x9 hx9 => ?_)
      obtain ⟨hx9, -⟩ := hx9
      rw [show x9 = v9 from Value.long.inj (hx9.trans hpo)]
      refine lv_iload hx hb dL_law_282 (lv_at hl 0 rfl) ?_
      refine lv_i2l hx hb dL_law_284 rfl ?_
      refine W.lcmp hx hb dL_law_285 ?_
      rw [show lg_cmp v9 _ = 0 from by rw [hv9, hrw]; simp [lg_cmp]]
      refine lv_if_eq (tgt := 291) hx hb dL_law_286 (by decide) (fun _ => ?_) (fun h9 => absurd rfl h9)
      refine lv_goto (tgt := 2252) hx hb dL_law_291 (by decide) ?_
      have hl := lv_sub hl [2, 3, 4, 5, 6, 7] (l' := [(0, .ref b), (1, .ref px), (2, .ref pm), (3, .ref po), (4, .ref pd), (5, .int (nI (4 * k)))]) rfl
      refine W.widen (k := 60 + 20 * (k + 1) + 37 * t) (n := 400 + 120 * (k + 1) + 162 * t) (by omega) (by omega) ?_
      refine W.base ?_
      exact hN s.drawn L κ g2 _ _ _ _ (Drawn.sameBut.refl _ _) hJ hko hkd hI hl
  · rcases hp with ⟨⟨_, q1⟩ | ⟨q0, _⟩ | ⟨q0, _⟩, hp⟩
    · cases hp
      refine lv_istore (lv' := [(6, .int 1), (0, .ref b), (1, .ref px), (2, .ref pm), (3, .ref po), (4, .ref pd), (5, .int (nI (4 * k)))]) hx hb dL_law_242 hl (by decide) rfl (fun ls hl => ?_)
      refine lv_aload_n hx hb dL_law_244 rfl (lv_at hl 3 rfl) ?_
      refine lv_aload_n hx hb dL_law_245 rfl (lv_at hl 1 rfl) ?_
      refine lv_iload hx hb dL_law_246 (lv_at hl 6 rfl) ?_
      refine lv_iconst (v := 1) hx hb dL_law_248 (by decide) ?_
      refine lv_iadd hx hb dL_law_249 ?_
      rw [show nI (4 * k) + 1 = nI (4 * k + 1) from nI_add _ _]
      refine va_sld hx hb hX hbl hbA hI.2.1 (vp_in_nI (show 4 * k + 1 < N from by omega) (by omega)) dL_law_250 ?_
      refine lv_aload_n hx hb dL_law_251 rfl (lv_at hl 1 rfl) ?_
      refine lv_iload hx hb dL_law_252 (lv_at hl 6 rfl) ?_
      refine lv_iconst (v := 2) hx hb dL_law_254 (by decide) ?_
      refine lv_iadd hx hb dL_law_255 ?_
      rw [show nI (4 * k) + 2 = nI (4 * k + 2) from nI_add _ _]
      refine va_sld hx hb hX hbl hbA hI.2.1 (vp_in_nI (show 4 * k + 2 < N from by omega) (by omega)) dL_law_256 ?_
      refine lv_i2c hx hb dL_law_257 rfl ?_
      refine z_ci hI (va_runV (As := [.int (xs (nI (4 * k + 1)).toNatClampNeg), .int (((xs (nI (4 * k + 2)).toNatClampNeg).toUInt32 % 65536).toInt32)]) (rest := []) ⟨hx, hb, hml, hown, hts⟩ (c_X11_core l D tc z0 _ κ g _ pm hkm (xs (nI (4 * k + 1)).toNatClampNeg) (((xs (nI (4 * k + 2)).toNatClampNeg).toUInt32 % 65536).toInt32) lc eC nC mC cf lt eT nT mT tf hMo) (cwV 2 hts gL_law_X11_core rfl rfl rfl (by decide +kernel) ⟨Nat.le_of_ble_eq_true rfl, Nat.le_of_ble_eq_true rfl⟩) (z_preV (Xc := []) hK hE hI [] rfl rfl (z_recv hK hI hkm rfl rfl)) rfl rfl hl.1 rfl (lv_room (Nat.le_of_ble_eq_true rfl)) dL_law_258 ⟨(show 60 + 20 * k + 37 * t + 7 + 2 ≤ 746514 from by omega), (show 400 + 120 * k + 162 * t + 65 + 29 ≤ 6862693 from by omega)⟩) (fun w u H locs hw hI => ?_)
      rcases hw with ⟨v8, ⟨rfl, w1⟩ | ⟨rfl, w1, w2, w3⟩ | ⟨rfl, w1, w2, w3⟩, w0, hu⟩ | ⟨i8, hi8, hx8, w2, w3, w4, e8, q8, hM9, hk9, h83, h815, h812, hκ9, hg9, hf8⟩
      · skip
        cases hu
        have hJ : zJ κ (zup g pm 12 (.int 1)) z0 px pm rq co sp aC aT t := hJ.upM (by decide)
        have hI : zI D tc (zA [] [] s.heap.size) s.heap [] L κ (zup g pm 12 (.int 1)) H locs := hI
        have hcd : (zup g pm 12 (.int 1)) pm 12 = .int 1 := zup_self _ _ _ _
        generalize (zup g pm 12 (.int 1)) = g3 at hI hJ hcd
        refine lv_istore (lv' := [(7, .int w), (6, .int 1), (0, .ref b), (1, .ref px), (2, .ref pm), (3, .ref po), (4, .ref pd), (5, .int (nI (4 * k)))]) hx hb dL_law_261 hl (by decide) rfl (fun ls hl => ?_)
        refine lv_aload_n hx hb dL_law_263 rfl (lv_at hl 4 rfl) ?_
        refine z_ci hI (va_runV (As := []) (rest := []) ⟨hx, hb, hml, hown, hts⟩ (c_X11_thrown l D tc z0 _ κ g3 _ pm hkm) (cwV 0 hts gL_law_X11_thrown rfl rfl rfl (by decide +kernel) ⟨Nat.le_of_ble_eq_true rfl, Nat.le_of_ble_eq_true rfl⟩) (z_preV (Xc := []) hK hE hI [] rfl rfl (z_recv hK hI hkm rfl rfl)) rfl rfl hl.1 rfl (lv_room (Nat.le_of_ble_eq_true rfl)) dL_law_264 ⟨(show 60 + 20 * k + 37 * t + 7 + 2 + 0 ≤ 746514 from by omega), (show 400 + 120 * k + 162 * t + 65 + 29 + 0 ≤ 6862693 from by omega)⟩) (fun w2 u H locs hw hI => ?_)
        obtain ⟨hw2, rfl⟩ := hw
        have hI : zI D tc (zA [] [] s.heap.size) s.heap [] L κ g3 H locs := hI
        obtain rfl : w2 = 1 := Value.int.inj (hw2.symm.trans hcd)
        refine lv_iload hx hb dL_law_267 (lv_at hl 1 rfl) ?_
        refine lv_icmp_eq (tgt := 274) hx hb dL_law_269 (by decide) (fun _ => ?_) (fun hne => absurd rfl hne)
        refine lv_iload hx hb dL_law_274 (lv_at hl 1 rfl) ?_
        refine lv_if_ne (tgt := 291) hx hb dL_law_276 (by decide) (fun _ => ?_) (fun h9 => absurd h9 (by decide))
        refine lv_goto (tgt := 2252) hx hb dL_law_291 (by decide) ?_
        have hl := lv_sub hl [2, 3, 4, 5, 6, 7] (l' := [(0, .ref b), (1, .ref px), (2, .ref pm), (3, .ref po), (4, .ref pd), (5, .int (nI (4 * k)))]) rfl
        refine W.widen (k := 60 + 20 * (k + 1) + 37 * t) (n := 400 + 120 * (k + 1) + 162 * t) (by omega) (by omega) ?_
        refine W.base ?_
        exact hN s.drawn L κ g3 _ _ _ _ (Drawn.sameBut.refl _ _) hJ hko hkd hI hl
      · exact absurd (z_in3I.mpr w1) q1
      · exact absurd (z_in3I.mpr w1) q1
      · exact absurd (by rw [hx8]; exact vp_in_nI hi8 (by decide)) q1
    · exact absurd q0 (by decide)
    · exact absurd q0 (by decide)
  · rcases hp with ⟨⟨q0, _⟩ | ⟨_, q1, q2, q3⟩ | ⟨q0, _⟩, hp⟩
    · exact absurd q0 (by decide)
    · cases hp
      refine lv_istore (lv' := [(6, .int 2), (0, .ref b), (1, .ref px), (2, .ref pm), (3, .ref po), (4, .ref pd), (5, .int (nI (4 * k)))]) hx hb dL_law_242 hl (by decide) rfl (fun ls hl => ?_)
      refine lv_aload_n hx hb dL_law_244 rfl (lv_at hl 3 rfl) ?_
      refine lv_aload_n hx hb dL_law_245 rfl (lv_at hl 1 rfl) ?_
      refine lv_iload hx hb dL_law_246 (lv_at hl 6 rfl) ?_
      refine lv_iconst (v := 1) hx hb dL_law_248 (by decide) ?_
      refine lv_iadd hx hb dL_law_249 ?_
      rw [show nI (4 * k) + 1 = nI (4 * k + 1) from nI_add _ _]
      refine va_sld hx hb hX hbl hbA hI.2.1 (vp_in_nI (show 4 * k + 1 < N from by omega) (by omega)) dL_law_250 ?_
      refine lv_aload_n hx hb dL_law_251 rfl (lv_at hl 1 rfl) ?_
      refine lv_iload hx hb dL_law_252 (lv_at hl 6 rfl) ?_
      refine lv_iconst (v := 2) hx hb dL_law_254 (by decide) ?_
      refine lv_iadd hx hb dL_law_255 ?_
      rw [show nI (4 * k) + 2 = nI (4 * k + 2) from nI_add _ _]
      refine va_sld hx hb hX hbl hbA hI.2.1 (vp_in_nI (show 4 * k + 2 < N from by omega) (by omega)) dL_law_256 ?_
      refine lv_i2c hx hb dL_law_257 rfl ?_
      refine z_ci hI (va_runV (As := [.int (xs (nI (4 * k + 1)).toNatClampNeg), .int (((xs (nI (4 * k + 2)).toNatClampNeg).toUInt32 % 65536).toInt32)]) (rest := []) ⟨hx, hb, hml, hown, hts⟩ (c_X11_core l D tc z0 _ κ g _ pm hkm (xs (nI (4 * k + 1)).toNatClampNeg) (((xs (nI (4 * k + 2)).toNatClampNeg).toUInt32 % 65536).toInt32) lc eC nC mC cf lt eT nT mT tf hMo) (cwV 2 hts gL_law_X11_core rfl rfl rfl (by decide +kernel) ⟨Nat.le_of_ble_eq_true rfl, Nat.le_of_ble_eq_true rfl⟩) (z_preV (Xc := []) hK hE hI [] rfl rfl (z_recv hK hI hkm rfl rfl)) rfl rfl hl.1 rfl (lv_room (Nat.le_of_ble_eq_true rfl)) dL_law_258 ⟨(show 60 + 20 * k + 37 * t + 7 + 2 ≤ 746514 from by omega), (show 400 + 120 * k + 162 * t + 65 + 29 ≤ 6862693 from by omega)⟩) (fun w u H locs hw hI => ?_)
      rcases hw with ⟨v8, ⟨rfl, w1⟩ | ⟨rfl, w1, w2, w3⟩ | ⟨rfl, w1, w2, w3⟩, w0, hu⟩ | ⟨i8, hi8, hx8, w2, w3, w4, e8, q8, hM9, hk9, h83, h815, h812, hκ9, hg9, hf8⟩
      · exact absurd (z_in3I.mp q1) w1
      · skip
        cases hu
        have hJ : zJ κ (zup g pm 12 (.int 2)) z0 px pm rq co sp aC aT t := hJ.upM (by decide)
        have hI : zI D tc (zA [] [] s.heap.size) s.heap [] L κ (zup g pm 12 (.int 2)) H locs := hI
        have hcd : (zup g pm 12 (.int 2)) pm 12 = .int 2 := zup_self _ _ _ _
        generalize (zup g pm 12 (.int 2)) = g3 at hI hJ hcd
        refine lv_istore (lv' := [(7, .int w), (6, .int 2), (0, .ref b), (1, .ref px), (2, .ref pm), (3, .ref po), (4, .ref pd), (5, .int (nI (4 * k)))]) hx hb dL_law_261 hl (by decide) rfl (fun ls hl => ?_)
        refine lv_aload_n hx hb dL_law_263 rfl (lv_at hl 4 rfl) ?_
        refine z_ci hI (va_runV (As := []) (rest := []) ⟨hx, hb, hml, hown, hts⟩ (c_X11_thrown l D tc z0 _ κ g3 _ pm hkm) (cwV 0 hts gL_law_X11_thrown rfl rfl rfl (by decide +kernel) ⟨Nat.le_of_ble_eq_true rfl, Nat.le_of_ble_eq_true rfl⟩) (z_preV (Xc := []) hK hE hI [] rfl rfl (z_recv hK hI hkm rfl rfl)) rfl rfl hl.1 rfl (lv_room (Nat.le_of_ble_eq_true rfl)) dL_law_264 ⟨(show 60 + 20 * k + 37 * t + 7 + 2 + 0 ≤ 746514 from by omega), (show 400 + 120 * k + 162 * t + 65 + 29 + 0 ≤ 6862693 from by omega)⟩) (fun w2 u H locs hw hI => ?_)
        obtain ⟨hw2, rfl⟩ := hw
        have hI : zI D tc (zA [] [] s.heap.size) s.heap [] L κ g3 H locs := hI
        obtain rfl : w2 = 2 := Value.int.inj (hw2.symm.trans hcd)
        refine lv_iload hx hb dL_law_267 (lv_at hl 1 rfl) ?_
        refine lv_icmp_eq (tgt := 274) hx hb dL_law_269 (by decide) (fun _ => ?_) (fun hne => absurd rfl hne)
        refine lv_iload hx hb dL_law_274 (lv_at hl 1 rfl) ?_
        refine lv_if_ne (tgt := 291) hx hb dL_law_276 (by decide) (fun _ => ?_) (fun h9 => absurd h9 (by decide))
        refine lv_goto (tgt := 2252) hx hb dL_law_291 (by decide) ?_
        have hl := lv_sub hl [2, 3, 4, 5, 6, 7] (l' := [(0, .ref b), (1, .ref px), (2, .ref pm), (3, .ref po), (4, .ref pd), (5, .int (nI (4 * k)))]) rfl
        refine W.widen (k := 60 + 20 * (k + 1) + 37 * t) (n := 400 + 120 * (k + 1) + 162 * t) (by omega) (by omega) ?_
        refine W.base ?_
        exact hN s.drawn L κ g3 _ _ _ _ (Drawn.sameBut.refl _ _) hJ hko hkd hI hl
      · exact absurd w2 (fun h => h.elim q2 q3)
      · exact absurd w2 (fun h => h.elim q2 q3)
    · exact absurd q0 (by decide)
  · rcases hp with ⟨⟨q0, _⟩ | ⟨q0, _⟩ | ⟨_, q1, q2, q3⟩, hp⟩
    · exact absurd q0 (by decide)
    · exact absurd q0 (by decide)
    · cases hp
      refine lv_istore (lv' := [(6, .int 3), (0, .ref b), (1, .ref px), (2, .ref pm), (3, .ref po), (4, .ref pd), (5, .int (nI (4 * k)))]) hx hb dL_law_242 hl (by decide) rfl (fun ls hl => ?_)
      refine lv_aload_n hx hb dL_law_244 rfl (lv_at hl 3 rfl) ?_
      refine lv_aload_n hx hb dL_law_245 rfl (lv_at hl 1 rfl) ?_
      refine lv_iload hx hb dL_law_246 (lv_at hl 6 rfl) ?_
      refine lv_iconst (v := 1) hx hb dL_law_248 (by decide) ?_
      refine lv_iadd hx hb dL_law_249 ?_
      rw [show nI (4 * k) + 1 = nI (4 * k + 1) from nI_add _ _]
      refine va_sld hx hb hX hbl hbA hI.2.1 (vp_in_nI (show 4 * k + 1 < N from by omega) (by omega)) dL_law_250 ?_
      refine lv_aload_n hx hb dL_law_251 rfl (lv_at hl 1 rfl) ?_
      refine lv_iload hx hb dL_law_252 (lv_at hl 6 rfl) ?_
      refine lv_iconst (v := 2) hx hb dL_law_254 (by decide) ?_
      refine lv_iadd hx hb dL_law_255 ?_
      rw [show nI (4 * k) + 2 = nI (4 * k + 2) from nI_add _ _]
      refine va_sld hx hb hX hbl hbA hI.2.1 (vp_in_nI (show 4 * k + 2 < N from by omega) (by omega)) dL_law_256 ?_
      refine lv_i2c hx hb dL_law_257 rfl ?_
      refine z_ci hI (va_runV (As := [.int (xs (nI (4 * k + 1)).toNatClampNeg), .int (((xs (nI (4 * k + 2)).toNatClampNeg).toUInt32 % 65536).toInt32)]) (rest := []) ⟨hx, hb, hml, hown, hts⟩ (c_X11_core l D tc z0 _ κ g _ pm hkm (xs (nI (4 * k + 1)).toNatClampNeg) (((xs (nI (4 * k + 2)).toNatClampNeg).toUInt32 % 65536).toInt32) lc eC nC mC cf lt eT nT mT tf hMo) (cwV 2 hts gL_law_X11_core rfl rfl rfl (by decide +kernel) ⟨Nat.le_of_ble_eq_true rfl, Nat.le_of_ble_eq_true rfl⟩) (z_preV (Xc := []) hK hE hI [] rfl rfl (z_recv hK hI hkm rfl rfl)) rfl rfl hl.1 rfl (lv_room (Nat.le_of_ble_eq_true rfl)) dL_law_258 ⟨(show 60 + 20 * k + 37 * t + 7 + 2 ≤ 746514 from by omega), (show 400 + 120 * k + 162 * t + 65 + 29 ≤ 6862693 from by omega)⟩) (fun w u H locs hw hI => ?_)
      rcases hw with ⟨v8, ⟨rfl, w1⟩ | ⟨rfl, w1, w2, w3⟩ | ⟨rfl, w1, w2, w3⟩, w0, hu⟩ | ⟨i8, hi8, hx8, w2, w3, w4, e8, q8, hM9, hk9, h83, h815, h812, hκ9, hg9, hf8⟩
      · exact absurd (z_in3I.mp q1) w1
      · exact absurd q2 (fun h => h.elim w2 w3)
      · skip
        cases hu
        have hJ : zJ κ (zup g pm 12 (.int 3)) z0 px pm rq co sp aC aT t := hJ.upM (by decide)
        have hI : zI D tc (zA [] [] s.heap.size) s.heap [] L κ (zup g pm 12 (.int 3)) H locs := hI
        have hcd : (zup g pm 12 (.int 3)) pm 12 = .int 3 := zup_self _ _ _ _
        generalize (zup g pm 12 (.int 3)) = g3 at hI hJ hcd
        refine lv_istore (lv' := [(7, .int w), (6, .int 3), (0, .ref b), (1, .ref px), (2, .ref pm), (3, .ref po), (4, .ref pd), (5, .int (nI (4 * k)))]) hx hb dL_law_261 hl (by decide) rfl (fun ls hl => ?_)
        refine lv_aload_n hx hb dL_law_263 rfl (lv_at hl 4 rfl) ?_
        refine z_ci hI (va_runV (As := []) (rest := []) ⟨hx, hb, hml, hown, hts⟩ (c_X11_thrown l D tc z0 _ κ g3 _ pm hkm) (cwV 0 hts gL_law_X11_thrown rfl rfl rfl (by decide +kernel) ⟨Nat.le_of_ble_eq_true rfl, Nat.le_of_ble_eq_true rfl⟩) (z_preV (Xc := []) hK hE hI [] rfl rfl (z_recv hK hI hkm rfl rfl)) rfl rfl hl.1 rfl (lv_room (Nat.le_of_ble_eq_true rfl)) dL_law_264 ⟨(show 60 + 20 * k + 37 * t + 7 + 2 + 0 ≤ 746514 from by omega), (show 400 + 120 * k + 162 * t + 65 + 29 + 0 ≤ 6862693 from by omega)⟩) (fun w2 u H locs hw hI => ?_)
        obtain ⟨hw2, rfl⟩ := hw
        have hI : zI D tc (zA [] [] s.heap.size) s.heap [] L κ g3 H locs := hI
        obtain rfl : w2 = 3 := Value.int.inj (hw2.symm.trans hcd)
        refine lv_iload hx hb dL_law_267 (lv_at hl 1 rfl) ?_
        refine lv_icmp_eq (tgt := 274) hx hb dL_law_269 (by decide) (fun _ => ?_) (fun hne => absurd rfl hne)
        refine lv_iload hx hb dL_law_274 (lv_at hl 1 rfl) ?_
        refine lv_if_ne (tgt := 291) hx hb dL_law_276 (by decide) (fun _ => ?_) (fun h9 => absurd h9 (by decide))
        refine lv_goto (tgt := 2252) hx hb dL_law_291 (by decide) ?_
        have hl := lv_sub hl [2, 3, 4, 5, 6, 7] (l' := [(0, .ref b), (1, .ref px), (2, .ref pm), (3, .ref po), (4, .ref pd), (5, .int (nI (4 * k)))]) rfl
        refine W.widen (k := 60 + 20 * (k + 1) + 37 * t) (n := 400 + 120 * (k + 1) + 162 * t) (by omega) (by omega) ?_
        refine W.base ?_
        exact hN s.drawn L κ g3 _ _ _ _ (Drawn.sameBut.refl _ _) hJ hko hkd hI hl
      · exact absurd w3 (by rw [hCo.full hMo.bC q3]; decide)

set_option maxHeartbeats 4000000 in
set_option maxRecDepth 100000 in
theorem k_thread (l : Launch) (hnt : l.stackTraces = false) {p : Program} {e : Env} {s : State} {m : MethodId} {below : List Frame} {meth : Method} {c : Code} {H : Heap} {locs : List Loc} {Q : State → Prop} {D : va_G} {tc : Nat → ClassId} {z0 b N : Nat} {xs : Nat → Int32} {px pm po pd rq co sp aC aT t k : Nat} {L : List Nat} {κ : Nat → Nat} {g : Nat → Nat → Value} {ls : Array Slot} (C : lwC p s m meth c b N xs D tc z0) (hk : 4 * k + 4 ≤ N) (hN8 : N ≤ 2048) (hJ : zJ κ g z0 px pm rq co sp aC aT t) (h0 : (∀ j, g aC j = .null) ∧ ∀ j, g aT j = .null) (hko : κ po = 29) (hkd : κ pd = 30) (hI : zI D tc (zA [] [] s.heap.size) s.heap [] L κ g H locs) (hl : lv_has ls 9 [(0, .ref b), (1, .ref px), (2, .ref pm), (3, .ref po), (4, .ref pd), (5, .int (nI (4 * k)))]) (hN : lwN p l e s m below meth c b D tc z0 px pm po pd rq co sp aC aT k Q) : W p l e room_1 s m #[Value.ref b] below meth c H locs (60 + 20 * k + 37 * t) (400 + 120 * k + 162 * t) Q (F0 m 294 ls []) := by
  obtain ⟨hx, hb, hml, hown, hts, hK, hE, hX, hbl⟩ := C
  have hbA : ¬ zA [] [] s.heap.size b := fun q => by rcases q with q | q | q; exact absurd q List.not_mem_nil; exact absurd q List.not_mem_nil; exact absurd hbl (Nat.not_lt.mpr q)
  have htb9 : t ≤ 9999 := hJ.1.2.2.1.2
  refine lv_aload_n hx hb dL_law_294 rfl (lv_at hl 1 rfl) ?_
  refine lv_aload_n hx hb dL_law_295 rfl (lv_at hl 0 rfl) ?_
  refine lv_iload hx hb dL_law_296 (lv_at hl 5 rfl) ?_
  refine lv_iconst (v := 1) hx hb dL_law_298 (by decide) ?_
  refine lv_iadd hx hb dL_law_299 ?_
  rw [show nI (4 * k) + 1 = nI (4 * k + 1) from nI_add _ _]
  refine va_sld hx hb hX hbl hbA hI.2.1 (vp_in_nI (show 4 * k + 1 < N from by omega) (by omega)) dL_law_300 ?_
  refine lv_aload_n hx hb dL_law_301 rfl (lv_at hl 0 rfl) ?_
  refine lv_iload hx hb dL_law_302 (lv_at hl 5 rfl) ?_
  refine lv_iconst (v := 2) hx hb dL_law_304 (by decide) ?_
  refine lv_iadd hx hb dL_law_305 ?_
  rw [show nI (4 * k) + 2 = nI (4 * k + 2) from nI_add _ _]
  refine va_sld hx hb hX hbl hbA hI.2.1 (vp_in_nI (show 4 * k + 2 < N from by omega) (by omega)) dL_law_306 ?_
  refine lv_aload_n hx hb dL_law_307 rfl (lv_at hl 0 rfl) ?_
  refine lv_iload hx hb dL_law_308 (lv_at hl 5 rfl) ?_
  refine lv_iconst (v := 3) hx hb dL_law_310 (by decide) ?_
  refine lv_iadd hx hb dL_law_311 ?_
  rw [show nI (4 * k) + 3 = nI (4 * k + 3) from nI_add _ _]
  refine va_sld hx hb hX hbl hbA hI.2.1 (vp_in_nI (show 4 * k + 3 < N from by omega) (by omega)) dL_law_312 ?_
  refine lv_aload_n hx hb dL_law_313 rfl (lv_at hl 3 rfl) ?_
  obtain ⟨⟨⟨hkx, hkm, hkq, hkO, hkS, hkC, hkT⟩, ⟨hR, hO, hS9, hC, hT⟩, ⟨htM, htb⟩, lc, eC, nC, mC, cf, lt, eT, nT, mT, tf, hMo, hCo, hTh⟩, a0, a1, a2, a3, a4, a5, a6, a7⟩ := id hJ
  refine z_xi hI (vx_runSX (As := [.ref px, .int (xs (nI (4 * k + 1)).toNatClampNeg), .int (xs (nI (4 * k + 2)).toNatClampNeg), .int (xs (nI (4 * k + 3)).toNatClampNeg), .ref po]) (rest := []) ⟨hx, hb, hml, hown, hts⟩ (c_L_thread l hnt D tc z0 _ κ g _ px hkx (xs (nI (4 * k + 1)).toNatClampNeg) (xs (nI (4 * k + 2)).toNatClampNeg) (xs (nI (4 * k + 3)).toNatClampNeg) po hko aC hC aT hT) (vx_cwSW 5 hts gL_law_L_thread rfl rfl rfl (by decide +kernel) ⟨Nat.le_of_ble_eq_true rfl, Nat.le_of_ble_eq_true rfl⟩) (z_pre (Xc := []) hK hE hI [] rfl rfl) rfl rfl hl.1 rfl (lv_room (Nat.le_of_ble_eq_true rfl)) dL_law_314 ⟨(show 60 + 20 * k + 37 * t + 2 ≤ 746514 from by omega), (show 400 + 120 * k + 162 * t + 12 ≤ 6862693 from by omega)⟩) (fun E ce q9 u H locs hw hI he1 he2 he3 => hw.elim) (fun v u H locs hw hI => ?_)
  have hbC := hMo.bC
  have hbT := hMo.bT
  rcases hw with ⟨rfl, r1, u1, v9, hp, hv9, hu⟩ | ⟨rfl, hp⟩ | ⟨rfl, hp⟩ | ⟨rfl, hp⟩
  · obtain ⟨L1, κ1, g1⟩ := u1
    obtain ⟨i9, q9, hi9, hr9, qv, qk, hno9, hnl9, hkq9, hxt, h91, hf9⟩ := hp
    dsimp only at hkq9 hxt h91 hu
    cases hu
    have hin : i9 = nT := hTh.first hi9 hno9 hnl9
    rw [hin] at hxt
    have hM1 : zMo κ1 (zup g1 po 0 (.long v9)) z0 pm lc eC nC mC cf lt eT nT mT tf := ((hMo.upO hkT (by decide)).ext hxt).upO (hxt.k hko (by decide)) (by decide)
    have hkm1 : κ1 pm = 13 := hxt.k hkm (by decide)
    have hI : zI D tc (zA [] [] s.heap.size) s.heap [] L1 κ1 (zup g1 po 0 (.long v9)) H locs := hI
    refine lv_istore (lv' := [(6, .int 0), (0, .ref b), (1, .ref px), (2, .ref pm), (3, .ref po), (4, .ref pd), (5, .int (nI (4 * k)))]) hx hb dL_law_317 hl (by decide) rfl (fun ls hl => ?_)
    refine lv_aload_n hx hb dL_law_319 rfl (lv_at hl 3 rfl) ?_
    refine lv_aload_n hx hb dL_law_320 rfl (lv_at hl 1 rfl) ?_
    refine lv_iload hx hb dL_law_321 (lv_at hl 6 rfl) ?_
    refine lv_iconst (v := 1) hx hb dL_law_323 (by decide) ?_
    refine lv_iadd hx hb dL_law_324 ?_
    rw [show nI (4 * k) + 1 = nI (4 * k + 1) from nI_add _ _]
    refine va_sld hx hb hX hbl hbA hI.2.1 (vp_in_nI (show 4 * k + 1 < N from by omega) (by omega)) dL_law_325 ?_
    refine lv_aload_n hx hb dL_law_326 rfl (lv_at hl 1 rfl) ?_
    refine lv_iload hx hb dL_law_327 (lv_at hl 6 rfl) ?_
    refine lv_iconst (v := 2) hx hb dL_law_329 (by decide) ?_
    refine lv_iadd hx hb dL_law_330 ?_
    rw [show nI (4 * k) + 2 = nI (4 * k + 2) from nI_add _ _]
    refine va_sld hx hb hX hbl hbA hI.2.1 (vp_in_nI (show 4 * k + 2 < N from by omega) (by omega)) dL_law_331 ?_
    refine lv_aload_n hx hb dL_law_332 rfl (lv_at hl 1 rfl) ?_
    refine lv_iload hx hb dL_law_333 (lv_at hl 6 rfl) ?_
    refine lv_iconst (v := 3) hx hb dL_law_335 (by decide) ?_
    refine lv_iadd hx hb dL_law_336 ?_
    rw [show nI (4 * k) + 3 = nI (4 * k + 3) from nI_add _ _]
    refine va_sld hx hb hX hbl hbA hI.2.1 (vp_in_nI (show 4 * k + 3 < N from by omega) (by omega)) dL_law_337 ?_
    refine z_ci hI (va_runV (As := [.int (xs (nI (4 * k + 1)).toNatClampNeg), .int (xs (nI (4 * k + 2)).toNatClampNeg), .int (xs (nI (4 * k + 3)).toNatClampNeg)]) (rest := []) ⟨hx, hb, hml, hown, hts⟩ (c_X11_thread l D tc z0 _ κ1 (zup g1 po 0 (.long v9)) _ pm hkm1 (xs (nI (4 * k + 1)).toNatClampNeg) (xs (nI (4 * k + 2)).toNatClampNeg) (xs (nI (4 * k + 3)).toNatClampNeg) lc eC nC mC cf lt eT nT mT tf hM1) (cwV 3 hts gL_law_X11_thread rfl rfl rfl (by decide +kernel) ⟨Nat.le_of_ble_eq_true rfl, Nat.le_of_ble_eq_true rfl⟩) (z_preV (Xc := []) hK hE hI [] rfl rfl (z_recv hK hI hkm1 rfl rfl)) rfl rfl hl.1 rfl (lv_room (Nat.le_of_ble_eq_true rfl)) dL_law_338 ⟨(show 60 + 20 * k + 37 * t + 2 + 2 ≤ 746514 from by omega), (show 400 + 120 * k + 162 * t + 12 + 14 ≤ 6862693 from by omega)⟩) (fun w u H locs hw hI => ?_)
    rcases hw with ⟨v8, ⟨rfl, w1⟩ | ⟨rfl, w1, w2⟩ | ⟨rfl, w1, w2, w3⟩, w0, hu⟩ | ⟨i8, hi8, hx8, w2, w3, w4, e8, q8, hM9, hk9, h81, h812, hκ9, hg9, hf8⟩
    · obtain ⟨i7, hi7, hx7⟩ := (hCo.has hMo.bC (by decide)).mp qv
      exact absurd hx7 (w1 i7 hi7)
    · exact absurd ⟨⟨qk.1, qk.2.1⟩, qk.2.2⟩ w2
    · exact absurd hi9 (by omega)
    · obtain ⟨L2, κ2, g2⟩ := u
      dsimp only at hM9 hk9 h81 h812 hκ9 hg9
      have hko1 : κ1 po = 29 := hxt.k hko (by decide)
      have hkd1 : κ1 pd = 30 := hxt.k hkd (by decide)
      have hrw : r1 = w := hr9.trans (by rw [hin]; exact w4.symm)
      have hpo : g2 po 0 = .long v9 := (hg9 po 0 (by rw [hko1]; decide) (z_apart hko hMo.LT.1 (by decide)) (by rw [hko1]; decide) (fun q => absurd q.2 (by decide))).trans (zup_self _ _ _ _)
      have hcd : g2 pm 12 = .int 0 := h812
      have hJ : zJ κ2 g2 z0 px pm rq co sp aC aT t := zJ.thread hJ hCo hTh hxt hkq9 h91 hf9 hko hM9 hMo.LT.1 hk9 (h81.trans (by rw [hx8])) hκ9 hg9 hf8
      have hkm := hM9.k
      have hko : κ2 po = 29 := (hκ9 po (by rw [hko1]; decide)).trans hko1
      have hkd : κ2 pd = 30 := (hκ9 pd (by rw [hkd1]; decide)).trans hkd1
      have hI : zI D tc (zA [] [] s.heap.size) s.heap [] L2 κ2 g2 H locs := hI
      obtain ⟨L, rfl⟩ : ∃ x, x = L2 := ⟨_, rfl⟩
      obtain ⟨κ, rfl⟩ : ∃ x, x = κ2 := ⟨_, rfl⟩
      refine lv_istore (lv' := [(7, .int w), (6, .int 0), (0, .ref b), (1, .ref px), (2, .ref pm), (3, .ref po), (4, .ref pd), (5, .int (nI (4 * k)))]) hx hb dL_law_341 hl (by decide) rfl (fun ls hl => ?_)
      refine lv_aload_n hx hb dL_law_343 rfl (lv_at hl 4 rfl) ?_
      refine z_ci hI (va_runV (As := []) (rest := []) ⟨hx, hb, hml, hown, hts⟩ (c_X11_thrown l D tc z0 _ κ g2 _ pm hkm) (cwV 0 hts gL_law_X11_thrown rfl rfl rfl (by decide +kernel) ⟨Nat.le_of_ble_eq_true rfl, Nat.le_of_ble_eq_true rfl⟩) (z_preV (Xc := []) hK hE hI [] rfl rfl (z_recv hK hI hkm rfl rfl)) rfl rfl hl.1 rfl (lv_room (Nat.le_of_ble_eq_true rfl)) dL_law_344 ⟨(show 60 + 20 * k + 37 * t + 2 + 2 + 0 ≤ 746514 from by omega), (show 400 + 120 * k + 162 * t + 12 + 14 + 0 ≤ 6862693 from by omega)⟩) (fun w2 u H locs hw hI => ?_)
      obtain ⟨hw2, rfl⟩ := hw
      have hI : zI D tc (zA [] [] s.heap.size) s.heap [] L κ g2 H locs := hI
      obtain rfl : w2 = 0 := Value.int.inj (hw2.symm.trans hcd)
      refine lv_iload hx hb dL_law_347 (lv_at hl 1 rfl) ?_
      refine lv_icmp_eq (tgt := 354) hx hb dL_law_349 (by decide) (fun _ => ?_) (fun hne => absurd rfl hne)
      refine lv_iload hx hb dL_law_354 (lv_at hl 1 rfl) ?_
      refine lv_if_ne (tgt := 371) hx hb dL_law_356 (by decide) (fun h9 => absurd rfl h9) (fun _ => ?_)
      refine lv_aload_n hx hb dL_law_359 rfl (lv_at hl 5 rfl) ?_
      refine lv_iconst (v := 0) hx hb dL_law_360 (by decide) ?_
      have hM : zM p s m c cL_law #[Value.ref b] wsL_law RL D tc := ⟨hx, hb, hts, hown, hK⟩
      refine z_lald hM hI hko rfl rfl (vp_in_c 0 1 (by decide)) dL_law_361 (fun x9 hx9 => ?_)
      obtain ⟨hx9, -⟩ := hx9
      rw [show x9 = v9 from Value.long.inj (hx9.trans hpo)]
      refine lv_iload hx hb dL_law_362 (lv_at hl 0 rfl) ?_
      refine lv_i2l hx hb dL_law_364 rfl ?_
      refine W.lcmp hx hb dL_law_365 ?_
      rw [show lg_cmp v9 _ = 0 from by rw [hv9, hrw]; simp [lg_cmp]]
      refine lv_if_eq (tgt := 371) hx hb dL_law_366 (by decide) (fun _ => ?_) (fun h9 => absurd rfl h9)
      refine lv_goto (tgt := 2252) hx hb dL_law_371 (by decide) ?_
      have hl := lv_sub hl [2, 3, 4, 5, 6, 7] (l' := [(0, .ref b), (1, .ref px), (2, .ref pm), (3, .ref po), (4, .ref pd), (5, .int (nI (4 * k)))]) rfl
      refine W.widen (k := 60 + 20 * (k + 1) + 37 * t) (n := 400 + 120 * (k + 1) + 162 * t) (by omega) (by omega) ?_
      refine W.base ?_
      exact hN s.drawn L κ g2 _ _ _ _ (Drawn.sameBut.refl _ _) hJ hko hkd hI hl
  · rcases hp with ⟨⟨_, q1⟩ | ⟨q0, _⟩ | ⟨q0, _⟩, hp⟩
    · cases hp
      refine lv_istore (lv' := [(6, .int 1), (0, .ref b), (1, .ref px), (2, .ref pm), (3, .ref po), (4, .ref pd), (5, .int (nI (4 * k)))]) hx hb dL_law_317 hl (by decide) rfl (fun ls hl => ?_)
      refine lv_aload_n hx hb dL_law_319 rfl (lv_at hl 3 rfl) ?_
      refine lv_aload_n hx hb dL_law_320 rfl (lv_at hl 1 rfl) ?_
      refine lv_iload hx hb dL_law_321 (lv_at hl 6 rfl) ?_
      refine lv_iconst (v := 1) hx hb dL_law_323 (by decide) ?_
      refine lv_iadd hx hb dL_law_324 ?_
      rw [show nI (4 * k) + 1 = nI (4 * k + 1) from nI_add _ _]
      refine va_sld hx hb hX hbl hbA hI.2.1 (vp_in_nI (show 4 * k + 1 < N from by omega) (by omega)) dL_law_325 ?_
      refine lv_aload_n hx hb dL_law_326 rfl (lv_at hl 1 rfl) ?_
      refine lv_iload hx hb dL_law_327 (lv_at hl 6 rfl) ?_
      refine lv_iconst (v := 2) hx hb dL_law_329 (by decide) ?_
      refine lv_iadd hx hb dL_law_330 ?_
      rw [show nI (4 * k) + 2 = nI (4 * k + 2) from nI_add _ _]
      refine va_sld hx hb hX hbl hbA hI.2.1 (vp_in_nI (show 4 * k + 2 < N from by omega) (by omega)) dL_law_331 ?_
      refine lv_aload_n hx hb dL_law_332 rfl (lv_at hl 1 rfl) ?_
      refine lv_iload hx hb dL_law_333 (lv_at hl 6 rfl) ?_
      refine lv_iconst (v := 3) hx hb dL_law_335 (by decide) ?_
      refine lv_iadd hx hb dL_law_336 ?_
      rw [show nI (4 * k) + 3 = nI (4 * k + 3) from nI_add _ _]
      refine va_sld hx hb hX hbl hbA hI.2.1 (vp_in_nI (show 4 * k + 3 < N from by omega) (by omega)) dL_law_337 ?_
      refine z_ci hI (va_runV (As := [.int (xs (nI (4 * k + 1)).toNatClampNeg), .int (xs (nI (4 * k + 2)).toNatClampNeg), .int (xs (nI (4 * k + 3)).toNatClampNeg)]) (rest := []) ⟨hx, hb, hml, hown, hts⟩ (c_X11_thread l D tc z0 _ κ g _ pm hkm (xs (nI (4 * k + 1)).toNatClampNeg) (xs (nI (4 * k + 2)).toNatClampNeg) (xs (nI (4 * k + 3)).toNatClampNeg) lc eC nC mC cf lt eT nT mT tf hMo) (cwV 3 hts gL_law_X11_thread rfl rfl rfl (by decide +kernel) ⟨Nat.le_of_ble_eq_true rfl, Nat.le_of_ble_eq_true rfl⟩) (z_preV (Xc := []) hK hE hI [] rfl rfl (z_recv hK hI hkm rfl rfl)) rfl rfl hl.1 rfl (lv_room (Nat.le_of_ble_eq_true rfl)) dL_law_338 ⟨(show 60 + 20 * k + 37 * t + 2 + 2 ≤ 746514 from by omega), (show 400 + 120 * k + 162 * t + 12 + 14 ≤ 6862693 from by omega)⟩) (fun w u H locs hw hI => ?_)
      rcases hw with ⟨v8, ⟨rfl, w1⟩ | ⟨rfl, w1, w2⟩ | ⟨rfl, w1, w2, w3⟩, w0, hu⟩ | ⟨i8, hi8, hx8, w2, w3, w4, e8, q8, hM9, hk9, h81, h812, hκ9, hg9, hf8⟩
      · skip
        cases hu
        have hJ : zJ κ (zup g pm 12 (.int 1)) z0 px pm rq co sp aC aT t := hJ.upM (by decide)
        have hI : zI D tc (zA [] [] s.heap.size) s.heap [] L κ (zup g pm 12 (.int 1)) H locs := hI
        have hcd : (zup g pm 12 (.int 1)) pm 12 = .int 1 := zup_self _ _ _ _
        generalize (zup g pm 12 (.int 1)) = g3 at hI hJ hcd
        refine lv_istore (lv' := [(7, .int w), (6, .int 1), (0, .ref b), (1, .ref px), (2, .ref pm), (3, .ref po), (4, .ref pd), (5, .int (nI (4 * k)))]) hx hb dL_law_341 hl (by decide) rfl (fun ls hl => ?_)
        refine lv_aload_n hx hb dL_law_343 rfl (lv_at hl 4 rfl) ?_
        refine z_ci hI (va_runV (As := []) (rest := []) ⟨hx, hb, hml, hown, hts⟩ (c_X11_thrown l D tc z0 _ κ g3 _ pm hkm) (cwV 0 hts gL_law_X11_thrown rfl rfl rfl (by decide +kernel) ⟨Nat.le_of_ble_eq_true rfl, Nat.le_of_ble_eq_true rfl⟩) (z_preV (Xc := []) hK hE hI [] rfl rfl (z_recv hK hI hkm rfl rfl)) rfl rfl hl.1 rfl (lv_room (Nat.le_of_ble_eq_true rfl)) dL_law_344 ⟨(show 60 + 20 * k + 37 * t + 2 + 2 + 0 ≤ 746514 from by omega), (show 400 + 120 * k + 162 * t + 12 + 14 + 0 ≤ 6862693 from by omega)⟩) (fun w2 u H locs hw hI => ?_)
        obtain ⟨hw2, rfl⟩ := hw
        have hI : zI D tc (zA [] [] s.heap.size) s.heap [] L κ g3 H locs := hI
        obtain rfl : w2 = 1 := Value.int.inj (hw2.symm.trans hcd)
        refine lv_iload hx hb dL_law_347 (lv_at hl 1 rfl) ?_
        refine lv_icmp_eq (tgt := 354) hx hb dL_law_349 (by decide) (fun _ => ?_) (fun hne => absurd rfl hne)
        refine lv_iload hx hb dL_law_354 (lv_at hl 1 rfl) ?_
        refine lv_if_ne (tgt := 371) hx hb dL_law_356 (by decide) (fun _ => ?_) (fun h9 => absurd h9 (by decide))
        refine lv_goto (tgt := 2252) hx hb dL_law_371 (by decide) ?_
        have hl := lv_sub hl [2, 3, 4, 5, 6, 7] (l' := [(0, .ref b), (1, .ref px), (2, .ref pm), (3, .ref po), (4, .ref pd), (5, .int (nI (4 * k)))]) rfl
        refine W.widen (k := 60 + 20 * (k + 1) + 37 * t) (n := 400 + 120 * (k + 1) + 162 * t) (by omega) (by omega) ?_
        refine W.base ?_
        exact hN s.drawn L κ g3 _ _ _ _ (Drawn.sameBut.refl _ _) hJ hko hkd hI hl
      · exact absurd ((hCo.has hMo.bC (by decide)).mpr w1) q1
      · exact absurd ((hCo.has hMo.bC (by decide)).mpr w1) q1
      · exact absurd ((hCo.has hMo.bC (by decide)).mpr ⟨i8, hi8, hx8⟩) q1
    · exact absurd q0 (by decide)
    · exact absurd q0 (by decide)
  · rcases hp with ⟨⟨q0, _⟩ | ⟨_, q1, q2⟩ | ⟨q0, _⟩, hp⟩
    · exact absurd q0 (by decide)
    · cases hp
      refine lv_istore (lv' := [(6, .int 2), (0, .ref b), (1, .ref px), (2, .ref pm), (3, .ref po), (4, .ref pd), (5, .int (nI (4 * k)))]) hx hb dL_law_317 hl (by decide) rfl (fun ls hl => ?_)
      refine lv_aload_n hx hb dL_law_319 rfl (lv_at hl 3 rfl) ?_
      refine lv_aload_n hx hb dL_law_320 rfl (lv_at hl 1 rfl) ?_
      refine lv_iload hx hb dL_law_321 (lv_at hl 6 rfl) ?_
      refine lv_iconst (v := 1) hx hb dL_law_323 (by decide) ?_
      refine lv_iadd hx hb dL_law_324 ?_
      rw [show nI (4 * k) + 1 = nI (4 * k + 1) from nI_add _ _]
      refine va_sld hx hb hX hbl hbA hI.2.1 (vp_in_nI (show 4 * k + 1 < N from by omega) (by omega)) dL_law_325 ?_
      refine lv_aload_n hx hb dL_law_326 rfl (lv_at hl 1 rfl) ?_
      refine lv_iload hx hb dL_law_327 (lv_at hl 6 rfl) ?_
      refine lv_iconst (v := 2) hx hb dL_law_329 (by decide) ?_
      refine lv_iadd hx hb dL_law_330 ?_
      rw [show nI (4 * k) + 2 = nI (4 * k + 2) from nI_add _ _]
      refine va_sld hx hb hX hbl hbA hI.2.1 (vp_in_nI (show 4 * k + 2 < N from by omega) (by omega)) dL_law_331 ?_
      refine lv_aload_n hx hb dL_law_332 rfl (lv_at hl 1 rfl) ?_
      refine lv_iload hx hb dL_law_333 (lv_at hl 6 rfl) ?_
      refine lv_iconst (v := 3) hx hb dL_law_335 (by decide) ?_
      refine lv_iadd hx hb dL_law_336 ?_
      rw [show nI (4 * k) + 3 = nI (4 * k + 3) from nI_add _ _]
      refine va_sld hx hb hX hbl hbA hI.2.1 (vp_in_nI (show 4 * k + 3 < N from by omega) (by omega)) dL_law_337 ?_
      refine z_ci hI (va_runV (As := [.int (xs (nI (4 * k + 1)).toNatClampNeg), .int (xs (nI (4 * k + 2)).toNatClampNeg), .int (xs (nI (4 * k + 3)).toNatClampNeg)]) (rest := []) ⟨hx, hb, hml, hown, hts⟩ (c_X11_thread l D tc z0 _ κ g _ pm hkm (xs (nI (4 * k + 1)).toNatClampNeg) (xs (nI (4 * k + 2)).toNatClampNeg) (xs (nI (4 * k + 3)).toNatClampNeg) lc eC nC mC cf lt eT nT mT tf hMo) (cwV 3 hts gL_law_X11_thread rfl rfl rfl (by decide +kernel) ⟨Nat.le_of_ble_eq_true rfl, Nat.le_of_ble_eq_true rfl⟩) (z_preV (Xc := []) hK hE hI [] rfl rfl (z_recv hK hI hkm rfl rfl)) rfl rfl hl.1 rfl (lv_room (Nat.le_of_ble_eq_true rfl)) dL_law_338 ⟨(show 60 + 20 * k + 37 * t + 2 + 2 ≤ 746514 from by omega), (show 400 + 120 * k + 162 * t + 12 + 14 ≤ 6862693 from by omega)⟩) (fun w u H locs hw hI => ?_)
      rcases hw with ⟨v8, ⟨rfl, w1⟩ | ⟨rfl, w1, w2⟩ | ⟨rfl, w1, w2, w3⟩, w0, hu⟩ | ⟨i8, hi8, hx8, w2, w3, w4, e8, q8, hM9, hk9, h81, h812, hκ9, hg9, hf8⟩
      · obtain ⟨i7, hi7, hx7⟩ := (hCo.has hMo.bC (by decide)).mp q1
        exact absurd hx7 (w1 i7 hi7)
      · skip
        cases hu
        have hJ : zJ κ (zup g pm 12 (.int 2)) z0 px pm rq co sp aC aT t := hJ.upM (by decide)
        have hI : zI D tc (zA [] [] s.heap.size) s.heap [] L κ (zup g pm 12 (.int 2)) H locs := hI
        have hcd : (zup g pm 12 (.int 2)) pm 12 = .int 2 := zup_self _ _ _ _
        generalize (zup g pm 12 (.int 2)) = g3 at hI hJ hcd
        refine lv_istore (lv' := [(7, .int w), (6, .int 2), (0, .ref b), (1, .ref px), (2, .ref pm), (3, .ref po), (4, .ref pd), (5, .int (nI (4 * k)))]) hx hb dL_law_341 hl (by decide) rfl (fun ls hl => ?_)
        refine lv_aload_n hx hb dL_law_343 rfl (lv_at hl 4 rfl) ?_
        refine z_ci hI (va_runV (As := []) (rest := []) ⟨hx, hb, hml, hown, hts⟩ (c_X11_thrown l D tc z0 _ κ g3 _ pm hkm) (cwV 0 hts gL_law_X11_thrown rfl rfl rfl (by decide +kernel) ⟨Nat.le_of_ble_eq_true rfl, Nat.le_of_ble_eq_true rfl⟩) (z_preV (Xc := []) hK hE hI [] rfl rfl (z_recv hK hI hkm rfl rfl)) rfl rfl hl.1 rfl (lv_room (Nat.le_of_ble_eq_true rfl)) dL_law_344 ⟨(show 60 + 20 * k + 37 * t + 2 + 2 + 0 ≤ 746514 from by omega), (show 400 + 120 * k + 162 * t + 12 + 14 + 0 ≤ 6862693 from by omega)⟩) (fun w2 u H locs hw hI => ?_)
        obtain ⟨hw2, rfl⟩ := hw
        have hI : zI D tc (zA [] [] s.heap.size) s.heap [] L κ g3 H locs := hI
        obtain rfl : w2 = 2 := Value.int.inj (hw2.symm.trans hcd)
        refine lv_iload hx hb dL_law_347 (lv_at hl 1 rfl) ?_
        refine lv_icmp_eq (tgt := 354) hx hb dL_law_349 (by decide) (fun _ => ?_) (fun hne => absurd rfl hne)
        refine lv_iload hx hb dL_law_354 (lv_at hl 1 rfl) ?_
        refine lv_if_ne (tgt := 371) hx hb dL_law_356 (by decide) (fun _ => ?_) (fun h9 => absurd h9 (by decide))
        refine lv_goto (tgt := 2252) hx hb dL_law_371 (by decide) ?_
        have hl := lv_sub hl [2, 3, 4, 5, 6, 7] (l' := [(0, .ref b), (1, .ref px), (2, .ref pm), (3, .ref po), (4, .ref pd), (5, .int (nI (4 * k)))]) rfl
        refine W.widen (k := 60 + 20 * (k + 1) + 37 * t) (n := 400 + 120 * (k + 1) + 162 * t) (by omega) (by omega) ?_
        refine W.base ?_
        exact hN s.drawn L κ g3 _ _ _ _ (Drawn.sameBut.refl _ _) hJ hko hkd hI hl
      · exact absurd ⟨w2.1.1, w2.1.2, w2.2⟩ q2
      · exact absurd ⟨w2.1.1, w2.1.2, w2.2⟩ q2
    · exact absurd q0 (by decide)
  · rcases hp with ⟨⟨q0, _⟩ | ⟨q0, _⟩ | ⟨_, q1, q2, q3⟩, hp⟩
    · exact absurd q0 (by decide)
    · exact absurd q0 (by decide)
    · cases hp
      refine lv_istore (lv' := [(6, .int 3), (0, .ref b), (1, .ref px), (2, .ref pm), (3, .ref po), (4, .ref pd), (5, .int (nI (4 * k)))]) hx hb dL_law_317 hl (by decide) rfl (fun ls hl => ?_)
      refine lv_aload_n hx hb dL_law_319 rfl (lv_at hl 3 rfl) ?_
      refine lv_aload_n hx hb dL_law_320 rfl (lv_at hl 1 rfl) ?_
      refine lv_iload hx hb dL_law_321 (lv_at hl 6 rfl) ?_
      refine lv_iconst (v := 1) hx hb dL_law_323 (by decide) ?_
      refine lv_iadd hx hb dL_law_324 ?_
      rw [show nI (4 * k) + 1 = nI (4 * k + 1) from nI_add _ _]
      refine va_sld hx hb hX hbl hbA hI.2.1 (vp_in_nI (show 4 * k + 1 < N from by omega) (by omega)) dL_law_325 ?_
      refine lv_aload_n hx hb dL_law_326 rfl (lv_at hl 1 rfl) ?_
      refine lv_iload hx hb dL_law_327 (lv_at hl 6 rfl) ?_
      refine lv_iconst (v := 2) hx hb dL_law_329 (by decide) ?_
      refine lv_iadd hx hb dL_law_330 ?_
      rw [show nI (4 * k) + 2 = nI (4 * k + 2) from nI_add _ _]
      refine va_sld hx hb hX hbl hbA hI.2.1 (vp_in_nI (show 4 * k + 2 < N from by omega) (by omega)) dL_law_331 ?_
      refine lv_aload_n hx hb dL_law_332 rfl (lv_at hl 1 rfl) ?_
      refine lv_iload hx hb dL_law_333 (lv_at hl 6 rfl) ?_
      refine lv_iconst (v := 3) hx hb dL_law_335 (by decide) ?_
      refine lv_iadd hx hb dL_law_336 ?_
      rw [show nI (4 * k) + 3 = nI (4 * k + 3) from nI_add _ _]
      refine va_sld hx hb hX hbl hbA hI.2.1 (vp_in_nI (show 4 * k + 3 < N from by omega) (by omega)) dL_law_337 ?_
      refine z_ci hI (va_runV (As := [.int (xs (nI (4 * k + 1)).toNatClampNeg), .int (xs (nI (4 * k + 2)).toNatClampNeg), .int (xs (nI (4 * k + 3)).toNatClampNeg)]) (rest := []) ⟨hx, hb, hml, hown, hts⟩ (c_X11_thread l D tc z0 _ κ g _ pm hkm (xs (nI (4 * k + 1)).toNatClampNeg) (xs (nI (4 * k + 2)).toNatClampNeg) (xs (nI (4 * k + 3)).toNatClampNeg) lc eC nC mC cf lt eT nT mT tf hMo) (cwV 3 hts gL_law_X11_thread rfl rfl rfl (by decide +kernel) ⟨Nat.le_of_ble_eq_true rfl, Nat.le_of_ble_eq_true rfl⟩) (z_preV (Xc := []) hK hE hI [] rfl rfl (z_recv hK hI hkm rfl rfl)) rfl rfl hl.1 rfl (lv_room (Nat.le_of_ble_eq_true rfl)) dL_law_338 ⟨(show 60 + 20 * k + 37 * t + 2 + 2 ≤ 746514 from by omega), (show 400 + 120 * k + 162 * t + 12 + 14 ≤ 6862693 from by omega)⟩) (fun w u H locs hw hI => ?_)
      rcases hw with ⟨v8, ⟨rfl, w1⟩ | ⟨rfl, w1, w2⟩ | ⟨rfl, w1, w2, w3⟩, w0, hu⟩ | ⟨i8, hi8, hx8, w2, w3, w4, e8, q8, hM9, hk9, h81, h812, hκ9, hg9, hf8⟩
      · obtain ⟨i7, hi7, hx7⟩ := (hCo.has hMo.bC (by decide)).mp q1
        exact absurd hx7 (w1 i7 hi7)
      · exact absurd ⟨⟨q2.1, q2.2.1⟩, q2.2.2⟩ w2
      · skip
        cases hu
        have hJ : zJ κ (zup g pm 12 (.int 3)) z0 px pm rq co sp aC aT t := hJ.upM (by decide)
        have hI : zI D tc (zA [] [] s.heap.size) s.heap [] L κ (zup g pm 12 (.int 3)) H locs := hI
        have hcd : (zup g pm 12 (.int 3)) pm 12 = .int 3 := zup_self _ _ _ _
        generalize (zup g pm 12 (.int 3)) = g3 at hI hJ hcd
        refine lv_istore (lv' := [(7, .int w), (6, .int 3), (0, .ref b), (1, .ref px), (2, .ref pm), (3, .ref po), (4, .ref pd), (5, .int (nI (4 * k)))]) hx hb dL_law_341 hl (by decide) rfl (fun ls hl => ?_)
        refine lv_aload_n hx hb dL_law_343 rfl (lv_at hl 4 rfl) ?_
        refine z_ci hI (va_runV (As := []) (rest := []) ⟨hx, hb, hml, hown, hts⟩ (c_X11_thrown l D tc z0 _ κ g3 _ pm hkm) (cwV 0 hts gL_law_X11_thrown rfl rfl rfl (by decide +kernel) ⟨Nat.le_of_ble_eq_true rfl, Nat.le_of_ble_eq_true rfl⟩) (z_preV (Xc := []) hK hE hI [] rfl rfl (z_recv hK hI hkm rfl rfl)) rfl rfl hl.1 rfl (lv_room (Nat.le_of_ble_eq_true rfl)) dL_law_344 ⟨(show 60 + 20 * k + 37 * t + 2 + 2 + 0 ≤ 746514 from by omega), (show 400 + 120 * k + 162 * t + 12 + 14 + 0 ≤ 6862693 from by omega)⟩) (fun w2 u H locs hw hI => ?_)
        obtain ⟨hw2, rfl⟩ := hw
        have hI : zI D tc (zA [] [] s.heap.size) s.heap [] L κ g3 H locs := hI
        obtain rfl : w2 = 3 := Value.int.inj (hw2.symm.trans hcd)
        refine lv_iload hx hb dL_law_347 (lv_at hl 1 rfl) ?_
        refine lv_icmp_eq (tgt := 354) hx hb dL_law_349 (by decide) (fun _ => ?_) (fun hne => absurd rfl hne)
        refine lv_iload hx hb dL_law_354 (lv_at hl 1 rfl) ?_
        refine lv_if_ne (tgt := 371) hx hb dL_law_356 (by decide) (fun _ => ?_) (fun h9 => absurd h9 (by decide))
        refine lv_goto (tgt := 2252) hx hb dL_law_371 (by decide) ?_
        have hl := lv_sub hl [2, 3, 4, 5, 6, 7] (l' := [(0, .ref b), (1, .ref px), (2, .ref pm), (3, .ref po), (4, .ref pd), (5, .int (nI (4 * k)))]) rfl
        refine W.widen (k := 60 + 20 * (k + 1) + 37 * t) (n := 400 + 120 * (k + 1) + 162 * t) (by omega) (by omega) ?_
        refine W.base ?_
        exact hN s.drawn L κ g3 _ _ _ _ (Drawn.sameBut.refl _ _) hJ hko hkd hI hl
      · exact absurd w3 (by rw [hTh.full hMo.bT q3]; decide)

set_option maxHeartbeats 4000000 in
set_option maxRecDepth 100000 in
theorem k_feed (l : Launch) (hnt : l.stackTraces = false) {p : Program} {e : Env} {s : State} {m : MethodId} {below : List Frame} {meth : Method} {c : Code} {H : Heap} {locs : List Loc} {Q : State → Prop} {D : va_G} {tc : Nat → ClassId} {z0 b N : Nat} {xs : Nat → Int32} {px pm po pd rq co sp aC aT t k : Nat} {L : List Nat} {κ : Nat → Nat} {g : Nat → Nat → Value} {ls : Array Slot} (C : lwC p s m meth c b N xs D tc z0) (hk : 4 * k + 4 ≤ N) (hN8 : N ≤ 2048) (hJ : zJ κ g z0 px pm rq co sp aC aT t) (h0 : (∀ j, g aC j = .null) ∧ ∀ j, g aT j = .null) (hko : κ po = 29) (hkd : κ pd = 30) (hI : zI D tc (zA [] [] s.heap.size) s.heap [] L κ g H locs) (hl : lv_has ls 9 [(0, .ref b), (1, .ref px), (2, .ref pm), (3, .ref po), (4, .ref pd), (5, .int (nI (4 * k)))]) (hN : lwN p l e s m below meth c b D tc z0 px pm po pd rq co sp aC aT k Q) : W p l e room_1 s m #[Value.ref b] below meth c H locs (60 + 20 * k + 37 * t) (400 + 120 * k + 162 * t) Q (F0 m 374 ls []) := by
  obtain ⟨hx, hb, hml, hown, hts, hK, hE, hX, hbl⟩ := C
  have hbA : ¬ zA [] [] s.heap.size b := fun q => by rcases q with q | q | q; exact absurd q List.not_mem_nil; exact absurd q List.not_mem_nil; exact absurd hbl (Nat.not_lt.mpr q)
  have htb9 : t ≤ 9999 := hJ.1.2.2.1.2
  refine lv_aload_n hx hb dL_law_374 rfl (lv_at hl 1 rfl) ?_
  refine lv_aload_n hx hb dL_law_375 rfl (lv_at hl 0 rfl) ?_
  refine lv_iload hx hb dL_law_376 (lv_at hl 5 rfl) ?_
  refine lv_iconst (v := 1) hx hb dL_law_378 (by decide) ?_
  refine lv_iadd hx hb dL_law_379 ?_
  rw [show nI (4 * k) + 1 = nI (4 * k + 1) from nI_add _ _]
  refine va_sld hx hb hX hbl hbA hI.2.1 (vp_in_nI (show 4 * k + 1 < N from by omega) (by omega)) dL_law_380 ?_
  refine lv_aload_n hx hb dL_law_381 rfl (lv_at hl 0 rfl) ?_
  refine lv_iload hx hb dL_law_382 (lv_at hl 5 rfl) ?_
  refine lv_iconst (v := 2) hx hb dL_law_384 (by decide) ?_
  refine lv_iadd hx hb dL_law_385 ?_
  rw [show nI (4 * k) + 2 = nI (4 * k + 2) from nI_add _ _]
  refine va_sld hx hb hX hbl hbA hI.2.1 (vp_in_nI (show 4 * k + 2 < N from by omega) (by omega)) dL_law_386 ?_
  refine lv_aload_n hx hb dL_law_387 rfl (lv_at hl 3 rfl) ?_
  obtain ⟨⟨⟨hkx, hkm, hkq, hkO, hkS, hkC, hkT⟩, ⟨hR, hO, hS9, hC, hT⟩, ⟨htM, htb⟩, lc, eC, nC, mC, cf, lt, eT, nT, mT, tf, hMo, hCo, hTh⟩, a0, a1, a2, a3, a4, a5, a6, a7⟩ := id hJ
  refine z_xi hI (vx_runSX (As := [.ref px, .int (xs (nI (4 * k + 1)).toNatClampNeg), .int (xs (nI (4 * k + 2)).toNatClampNeg), .ref po]) (rest := []) ⟨hx, hb, hml, hown, hts⟩ (c_L_feed l hnt D tc z0 _ κ g _ px hkx (xs (nI (4 * k + 1)).toNatClampNeg) (xs (nI (4 * k + 2)).toNatClampNeg) po hko aT hT) (vx_cwSW 4 hts gL_law_L_feed rfl rfl rfl (by decide +kernel) ⟨Nat.le_of_ble_eq_true rfl, Nat.le_of_ble_eq_true rfl⟩) (z_pre (Xc := []) hK hE hI [] rfl rfl) rfl rfl hl.1 rfl (lv_room (Nat.le_of_ble_eq_true rfl)) dL_law_388 ⟨(show 60 + 20 * k + 37 * t + 2 ≤ 746514 from by omega), (show 400 + 120 * k + 162 * t + 12 ≤ 6862693 from by omega)⟩) (fun E ce q9 u H locs hw hI he1 he2 he3 => hw.elim) (fun v u H locs hw hI => ?_)
  have hn0 : nT = 0 := hTh.zero h0.2
  have hno : ∀ x, ¬ zHas g aT 8 x := fun x q => by obtain ⟨i9, hi9, -⟩ := (hTh.has hMo.bT (by decide)).mp q; omega
  rcases hw with ⟨rfl, r1, u1, v9, hp, hv9, hu⟩ | ⟨rfl, hp⟩ | ⟨rfl, hp⟩ | ⟨rfl, hp⟩
  · exact absurd hp.1 (hno _)
  · rcases hp with ⟨⟨_, q1⟩ | ⟨q0, _⟩ | ⟨q0, _⟩, hp⟩
    · cases hp
      refine lv_istore (lv' := [(6, .int 1), (0, .ref b), (1, .ref px), (2, .ref pm), (3, .ref po), (4, .ref pd), (5, .int (nI (4 * k)))]) hx hb dL_law_391 hl (by decide) rfl (fun ls hl => ?_)
      refine lv_aload_n hx hb dL_law_393 rfl (lv_at hl 3 rfl) ?_
      refine lv_aload_n hx hb dL_law_394 rfl (lv_at hl 1 rfl) ?_
      refine lv_iload hx hb dL_law_395 (lv_at hl 6 rfl) ?_
      refine lv_iconst (v := 1) hx hb dL_law_397 (by decide) ?_
      refine lv_iadd hx hb dL_law_398 ?_
      rw [show nI (4 * k) + 1 = nI (4 * k + 1) from nI_add _ _]
      refine va_sld hx hb hX hbl hbA hI.2.1 (vp_in_nI (show 4 * k + 1 < N from by omega) (by omega)) dL_law_399 ?_
      refine lv_aload_n hx hb dL_law_400 rfl (lv_at hl 1 rfl) ?_
      refine lv_iload hx hb dL_law_401 (lv_at hl 6 rfl) ?_
      refine lv_iconst (v := 2) hx hb dL_law_403 (by decide) ?_
      refine lv_iadd hx hb dL_law_404 ?_
      rw [show nI (4 * k) + 2 = nI (4 * k + 2) from nI_add _ _]
      refine va_sld hx hb hX hbl hbA hI.2.1 (vp_in_nI (show 4 * k + 2 < N from by omega) (by omega)) dL_law_405 ?_
      refine z_ci hI (va_runV (As := [.int (xs (nI (4 * k + 1)).toNatClampNeg), .int (xs (nI (4 * k + 2)).toNatClampNeg)]) (rest := []) ⟨hx, hb, hml, hown, hts⟩ (c_X11_feed l D tc z0 _ κ g _ pm hkm (xs (nI (4 * k + 1)).toNatClampNeg) (xs (nI (4 * k + 2)).toNatClampNeg) lc eC nC mC cf lt eT nT mT tf hMo) (cwV 2 hts gL_law_X11_feed rfl rfl rfl (by decide +kernel) ⟨Nat.le_of_ble_eq_true rfl, Nat.le_of_ble_eq_true rfl⟩) (z_preV (Xc := []) hK hE hI [] rfl rfl (z_recv hK hI hkm rfl rfl)) rfl rfl hl.1 rfl (lv_room (Nat.le_of_ble_eq_true rfl)) dL_law_406 ⟨(show 60 + 20 * k + 37 * t + 2 + 0 ≤ 746514 from by omega), (show 400 + 120 * k + 162 * t + 12 + 0 ≤ 6862693 from by omega)⟩) (fun w u H locs hw hI => ?_)
      obtain ⟨v8, hv8, rfl⟩ := hw
      obtain rfl : v8 = 1 := hv8 hn0
      have hJ : zJ κ (zup g pm 12 (.int 1)) z0 px pm rq co sp aC aT t := hJ.upM (by decide)
      have hI : zI D tc (zA [] [] s.heap.size) s.heap [] L κ (zup g pm 12 (.int 1)) H locs := hI
      have hcd : (zup g pm 12 (.int 1)) pm 12 = .int 1 := zup_self _ _ _ _
      generalize (zup g pm 12 (.int 1)) = g3 at hI hJ hcd
      refine lv_istore (lv' := [(7, .int w), (6, .int 1), (0, .ref b), (1, .ref px), (2, .ref pm), (3, .ref po), (4, .ref pd), (5, .int (nI (4 * k)))]) hx hb dL_law_409 hl (by decide) rfl (fun ls hl => ?_)
      refine lv_aload_n hx hb dL_law_411 rfl (lv_at hl 4 rfl) ?_
      refine z_ci hI (va_runV (As := []) (rest := []) ⟨hx, hb, hml, hown, hts⟩ (c_X11_thrown l D tc z0 _ κ g3 _ pm hkm) (cwV 0 hts gL_law_X11_thrown rfl rfl rfl (by decide +kernel) ⟨Nat.le_of_ble_eq_true rfl, Nat.le_of_ble_eq_true rfl⟩) (z_preV (Xc := []) hK hE hI [] rfl rfl (z_recv hK hI hkm rfl rfl)) rfl rfl hl.1 rfl (lv_room (Nat.le_of_ble_eq_true rfl)) dL_law_412 ⟨(show 60 + 20 * k + 37 * t + 2 + 0 + 0 ≤ 746514 from by omega), (show 400 + 120 * k + 162 * t + 12 + 0 + 0 ≤ 6862693 from by omega)⟩) (fun w2 u H locs hw hI => ?_)
      obtain ⟨hw2, rfl⟩ := hw
      have hI : zI D tc (zA [] [] s.heap.size) s.heap [] L κ g3 H locs := hI
      obtain rfl : w2 = 1 := Value.int.inj (hw2.symm.trans hcd)
      refine lv_iload hx hb dL_law_415 (lv_at hl 1 rfl) ?_
      refine lv_icmp_eq (tgt := 422) hx hb dL_law_417 (by decide) (fun _ => ?_) (fun hne => absurd rfl hne)
      refine lv_iload hx hb dL_law_422 (lv_at hl 1 rfl) ?_
      refine lv_if_ne (tgt := 439) hx hb dL_law_424 (by decide) (fun _ => ?_) (fun h9 => absurd h9 (by decide))
      refine lv_goto (tgt := 2252) hx hb dL_law_439 (by decide) ?_
      have hl := lv_sub hl [2, 3, 4, 5, 6, 7] (l' := [(0, .ref b), (1, .ref px), (2, .ref pm), (3, .ref po), (4, .ref pd), (5, .int (nI (4 * k)))]) rfl
      refine W.widen (k := 60 + 20 * (k + 1) + 37 * t) (n := 400 + 120 * (k + 1) + 162 * t) (by omega) (by omega) ?_
      refine W.base ?_
      exact hN s.drawn L κ g3 _ _ _ _ (Drawn.sameBut.refl _ _) hJ hko hkd hI hl
    · exact absurd q0 (by decide)
    · exact absurd q0 (by decide)
  · rcases hp with ⟨⟨q0, _⟩ | ⟨_, q1⟩ | ⟨q0, _⟩, hp⟩
    · exact absurd q0 (by decide)
    · exact absurd q1 (hno _)
    · exact absurd q0 (by decide)
  · rcases hp with ⟨⟨q0, _⟩ | ⟨q0, _⟩ | ⟨_, q1⟩, hp⟩
    · exact absurd q0 (by decide)
    · exact absurd q0 (by decide)
    · exact absurd q1 (hno _)

set_option maxHeartbeats 4000000 in
set_option maxRecDepth 100000 in
theorem k_move (l : Launch) (hnt : l.stackTraces = false) {p : Program} {e : Env} {s : State} {m : MethodId} {below : List Frame} {meth : Method} {c : Code} {H : Heap} {locs : List Loc} {Q : State → Prop} {D : va_G} {tc : Nat → ClassId} {z0 b N : Nat} {xs : Nat → Int32} {px pm po pd rq co sp aC aT t k : Nat} {L : List Nat} {κ : Nat → Nat} {g : Nat → Nat → Value} {ls : Array Slot} (C : lwC p s m meth c b N xs D tc z0) (hk : 4 * k + 4 ≤ N) (hN8 : N ≤ 2048) (hJ : zJ κ g z0 px pm rq co sp aC aT t) (h0 : (∀ j, g aC j = .null) ∧ ∀ j, g aT j = .null) (hko : κ po = 29) (hkd : κ pd = 30) (hI : zI D tc (zA [] [] s.heap.size) s.heap [] L κ g H locs) (hl : lv_has ls 9 [(0, .ref b), (1, .ref px), (2, .ref pm), (3, .ref po), (4, .ref pd), (5, .int (nI (4 * k)))]) (hN : lwN p l e s m below meth c b D tc z0 px pm po pd rq co sp aC aT k Q) : W p l e room_1 s m #[Value.ref b] below meth c H locs (60 + 20 * k + 37 * t) (400 + 120 * k + 162 * t) Q (F0 m 442 ls []) := by
  obtain ⟨hx, hb, hml, hown, hts, hK, hE, hX, hbl⟩ := C
  have hbA : ¬ zA [] [] s.heap.size b := fun q => by rcases q with q | q | q; exact absurd q List.not_mem_nil; exact absurd q List.not_mem_nil; exact absurd hbl (Nat.not_lt.mpr q)
  have htb9 : t ≤ 9999 := hJ.1.2.2.1.2
  refine lv_aload_n hx hb dL_law_442 rfl (lv_at hl 1 rfl) ?_
  refine lv_aload_n hx hb dL_law_443 rfl (lv_at hl 0 rfl) ?_
  refine lv_iload hx hb dL_law_444 (lv_at hl 5 rfl) ?_
  refine lv_iconst (v := 1) hx hb dL_law_446 (by decide) ?_
  refine lv_iadd hx hb dL_law_447 ?_
  rw [show nI (4 * k) + 1 = nI (4 * k + 1) from nI_add _ _]
  refine va_sld hx hb hX hbl hbA hI.2.1 (vp_in_nI (show 4 * k + 1 < N from by omega) (by omega)) dL_law_448 ?_
  refine lv_aload_n hx hb dL_law_449 rfl (lv_at hl 0 rfl) ?_
  refine lv_iload hx hb dL_law_450 (lv_at hl 5 rfl) ?_
  refine lv_iconst (v := 2) hx hb dL_law_452 (by decide) ?_
  refine lv_iadd hx hb dL_law_453 ?_
  rw [show nI (4 * k) + 2 = nI (4 * k + 2) from nI_add _ _]
  refine va_sld hx hb hX hbl hbA hI.2.1 (vp_in_nI (show 4 * k + 2 < N from by omega) (by omega)) dL_law_454 ?_
  refine lv_aload_n hx hb dL_law_455 rfl (lv_at hl 3 rfl) ?_
  obtain ⟨⟨⟨hkx, hkm, hkq, hkO, hkS, hkC, hkT⟩, ⟨hR, hO, hS9, hC, hT⟩, ⟨htM, htb⟩, lc, eC, nC, mC, cf, lt, eT, nT, mT, tf, hMo, hCo, hTh⟩, a0, a1, a2, a3, a4, a5, a6, a7⟩ := id hJ
  refine z_xi hI (vx_runSX (As := [.ref px, .int (xs (nI (4 * k + 1)).toNatClampNeg), .int (xs (nI (4 * k + 2)).toNatClampNeg), .ref po]) (rest := []) ⟨hx, hb, hml, hown, hts⟩ (c_L_move l hnt D tc z0 _ κ g _ px hkx (xs (nI (4 * k + 1)).toNatClampNeg) (xs (nI (4 * k + 2)).toNatClampNeg) po hko aT hT aC hC) (vx_cwSW 4 hts gL_law_L_move rfl rfl rfl (by decide +kernel) ⟨Nat.le_of_ble_eq_true rfl, Nat.le_of_ble_eq_true rfl⟩) (z_pre (Xc := []) hK hE hI [] rfl rfl) rfl rfl hl.1 rfl (lv_room (Nat.le_of_ble_eq_true rfl)) dL_law_456 ⟨(show 60 + 20 * k + 37 * t + 3 ≤ 746514 from by omega), (show 400 + 120 * k + 162 * t + 18 ≤ 6862693 from by omega)⟩) (fun E ce q9 u H locs hw hI he1 he2 he3 => hw.elim) (fun v u H locs hw hI => ?_)
  have hbC := hMo.bC
  have hbT := hMo.bT
  rcases hw with ⟨rfl, r1, u1, v9, hp, hv9, hu⟩ | ⟨rfl, hp⟩ | ⟨rfl, hp⟩
  · obtain ⟨a, hka, q1, q2, qh, q4, qn, hp⟩ := hp
    cases hp
    cases hu
    obtain ⟨i9, hi9, hx9⟩ : ∃ i9, i9 < nT ∧ ((xs (nI (4 * k + 1)).toNatClampNeg)) = nI i9 := (hTh.has hMo.bT (by decide)).mp ⟨q1, _, q2⟩
    rw [hx9] at q2
    obtain ⟨hia, -, hkc, hps⟩ := hTh.nth hMo.bT (by decide) hi9 q2
    obtain ⟨j9, hj9, hy9⟩ := (hCo.has hMo.bC (by decide)).mp qh
    have hM1 : zMo κ (zup (zup g a 1 (.int ((xs (nI (4 * k + 2)).toNatClampNeg)))) po 0 (.long v9)) z0 pm lc eC nC mC cf lt eT nT mT tf := (hMo.upO hka (by decide)).upO hko (by decide)
    have hI : zI D tc (zA [] [] s.heap.size) s.heap [] L κ (zup (zup g a 1 (.int ((xs (nI (4 * k + 2)).toNatClampNeg)))) po 0 (.long v9)) H locs := hI
    obtain ⟨g1, hg1⟩ : ∃ x, x = (zup (zup g a 1 (.int ((xs (nI (4 * k + 2)).toNatClampNeg)))) po 0 (.long v9)) := ⟨_, rfl⟩
    rw [← hg1] at hI hM1
    refine lv_istore (lv' := [(6, .int 0), (0, .ref b), (1, .ref px), (2, .ref pm), (3, .ref po), (4, .ref pd), (5, .int (nI (4 * k)))]) hx hb dL_law_459 hl (by decide) rfl (fun ls hl => ?_)
    refine lv_aload_n hx hb dL_law_461 rfl (lv_at hl 3 rfl) ?_
    refine lv_aload_n hx hb dL_law_462 rfl (lv_at hl 1 rfl) ?_
    refine lv_iload hx hb dL_law_463 (lv_at hl 6 rfl) ?_
    refine lv_iconst (v := 1) hx hb dL_law_465 (by decide) ?_
    refine lv_iadd hx hb dL_law_466 ?_
    rw [show nI (4 * k) + 1 = nI (4 * k + 1) from nI_add _ _]
    refine va_sld hx hb hX hbl hbA hI.2.1 (vp_in_nI (show 4 * k + 1 < N from by omega) (by omega)) dL_law_467 ?_
    refine lv_aload_n hx hb dL_law_468 rfl (lv_at hl 1 rfl) ?_
    refine lv_iload hx hb dL_law_469 (lv_at hl 6 rfl) ?_
    refine lv_iconst (v := 2) hx hb dL_law_471 (by decide) ?_
    refine lv_iadd hx hb dL_law_472 ?_
    rw [show nI (4 * k) + 2 = nI (4 * k + 2) from nI_add _ _]
    refine va_sld hx hb hX hbl hbA hI.2.1 (vp_in_nI (show 4 * k + 2 < N from by omega) (by omega)) dL_law_473 ?_
    refine z_ci hI (va_runV (As := [.int (xs (nI (4 * k + 1)).toNatClampNeg), .int (xs (nI (4 * k + 2)).toNatClampNeg)]) (rest := []) ⟨hx, hb, hml, hown, hts⟩ (c_X11_move l D tc z0 _ κ g1 _ pm hkm (xs (nI (4 * k + 1)).toNatClampNeg) (xs (nI (4 * k + 2)).toNatClampNeg) lc eC nC mC cf lt eT nT mT tf hM1) (cwV 2 hts gL_law_X11_move rfl rfl rfl (by decide +kernel) ⟨Nat.le_of_ble_eq_true rfl, Nat.le_of_ble_eq_true rfl⟩) (z_preV (Xc := []) hK hE hI [] rfl rfl (z_recv hK hI hkm rfl rfl)) rfl rfl hl.1 rfl (lv_room (Nat.le_of_ble_eq_true rfl)) dL_law_474 ⟨(show 60 + 20 * k + 37 * t + 3 + 0 ≤ 746514 from by omega), (show 400 + 120 * k + 162 * t + 18 + 0 ≤ 6862693 from by omega)⟩) (fun w u H locs hw hI => ?_)
    rcases hw with ⟨v8, ⟨rfl, hno⟩ | ⟨rfl, i8, j8, hi8, hx8, hj8, hy8, w3⟩, hu⟩ | ⟨i8, j8, hi8, hx8, hj8, hy8, w3, w5, hu⟩
    · exact hno.elim (fun h => absurd hx9 (h i9 hi9)) (fun h => absurd hy9 (h j9 hj9))
    · have e8 : i8 = i9 := (nI_eq (by omega) (by omega)).mp (hx8.symm.trans hx9)
      rw [e8] at w3
      have hgc : g1 (tf i9) 1 = g (tf i9) 1 := by rw [hg1]; exact (zup_a (z_apart hkc hko (by decide))).trans (zup_a (z_apart hkc hka (by decide)))
      exact absurd ((Value.int.inj (q4.symm.trans ((hps (1, 1) (by decide)).trans (hgc.symm.trans w3)))).trans hy8.symm) qn
    · have e8 : i8 = i9 := (nI_eq (by omega) (by omega)).mp (hx8.symm.trans hx9)
      rw [e8] at w3 hu
      rw [← hy8] at hu
      cases hu
      have hgc : g1 (tf i9) 1 = g (tf i9) 1 := by rw [hg1]; exact (zup_a (z_apart hkc hko (by decide))).trans (zup_a (z_apart hkc hka (by decide)))
      have hrw : r1 = w := Value.int.inj (q4.symm.trans ((hps (1, 1) (by decide)).trans (hgc.symm.trans w3)))
      rw [hg1] at hI
      have hJ : zJ κ (zup (zup (zup (zup g a 1 (.int ((xs (nI (4 * k + 2)).toNatClampNeg)))) po 0 (.long v9)) pm 12 (.int 0)) (tf i9) 1 (.int ((xs (nI (4 * k + 2)).toNatClampNeg)))) z0 px pm rq co sp aC aT t := zJ.setT hJ hMo hCo hTh hi9 hia hka hkc hko
      have hI : zI D tc (zA [] [] s.heap.size) s.heap [] L κ (zup (zup (zup (zup g a 1 (.int ((xs (nI (4 * k + 2)).toNatClampNeg)))) po 0 (.long v9)) pm 12 (.int 0)) (tf i9) 1 (.int ((xs (nI (4 * k + 2)).toNatClampNeg)))) H locs := hI
      have hcd : (zup (zup (zup (zup g a 1 (.int ((xs (nI (4 * k + 2)).toNatClampNeg)))) po 0 (.long v9)) pm 12 (.int 0)) (tf i9) 1 (.int ((xs (nI (4 * k + 2)).toNatClampNeg)))) pm 12 = .int 0 := (zup_a (z_apart hkm hkc (by decide))).trans (zup_self _ _ _ _)
      have hpo : (zup (zup (zup (zup g a 1 (.int ((xs (nI (4 * k + 2)).toNatClampNeg)))) po 0 (.long v9)) pm 12 (.int 0)) (tf i9) 1 (.int ((xs (nI (4 * k + 2)).toNatClampNeg)))) po 0 = .long v9 := ((zup_a (z_apart hko hkc (by decide))).trans (zup_a (z_apart hko hkm (by decide)))).trans (zup_self _ _ _ _)
      generalize (zup (zup (zup (zup g a 1 (.int ((xs (nI (4 * k + 2)).toNatClampNeg)))) po 0 (.long v9)) pm 12 (.int 0)) (tf i9) 1 (.int ((xs (nI (4 * k + 2)).toNatClampNeg)))) = g3 at hI hJ hcd hpo
      refine lv_istore (lv' := [(7, .int w), (6, .int 0), (0, .ref b), (1, .ref px), (2, .ref pm), (3, .ref po), (4, .ref pd), (5, .int (nI (4 * k)))]) hx hb dL_law_477 hl (by decide) rfl (fun ls hl => ?_)
      refine lv_aload_n hx hb dL_law_479 rfl (lv_at hl 4 rfl) ?_
      refine z_ci hI (va_runV (As := []) (rest := []) ⟨hx, hb, hml, hown, hts⟩ (c_X11_thrown l D tc z0 _ κ g3 _ pm hkm) (cwV 0 hts gL_law_X11_thrown rfl rfl rfl (by decide +kernel) ⟨Nat.le_of_ble_eq_true rfl, Nat.le_of_ble_eq_true rfl⟩) (z_preV (Xc := []) hK hE hI [] rfl rfl (z_recv hK hI hkm rfl rfl)) rfl rfl hl.1 rfl (lv_room (Nat.le_of_ble_eq_true rfl)) dL_law_480 ⟨(show 60 + 20 * k + 37 * t + 3 + 0 + 0 ≤ 746514 from by omega), (show 400 + 120 * k + 162 * t + 18 + 0 + 0 ≤ 6862693 from by omega)⟩) (fun w2 u H locs hw hI => ?_)
      obtain ⟨hw2, rfl⟩ := hw
      have hI : zI D tc (zA [] [] s.heap.size) s.heap [] L κ g3 H locs := hI
      obtain rfl : w2 = 0 := Value.int.inj (hw2.symm.trans hcd)
      refine lv_iload hx hb dL_law_483 (lv_at hl 1 rfl) ?_
      refine lv_icmp_eq (tgt := 490) hx hb dL_law_485 (by decide) (fun _ => ?_) (fun hne => absurd rfl hne)
      refine lv_iload hx hb dL_law_490 (lv_at hl 1 rfl) ?_
      refine lv_if_ne (tgt := 507) hx hb dL_law_492 (by decide) (fun h9 => absurd rfl h9) (fun _ => ?_)
      refine lv_aload_n hx hb dL_law_495 rfl (lv_at hl 5 rfl) ?_
      refine lv_iconst (v := 0) hx hb dL_law_496 (by decide) ?_
      have hM : zM p s m c cL_law #[Value.ref b] wsL_law RL D tc := ⟨hx, hb, hts, hown, hK⟩
      refine z_lald hM hI hko rfl rfl (vp_in_c 0 1 (by decide)) dL_law_497 (fun x9 hx9 => ?_)
      obtain ⟨hx9, -⟩ := hx9
      rw [show x9 = v9 from Value.long.inj (hx9.trans hpo)]
      refine lv_iload hx hb dL_law_498 (lv_at hl 0 rfl) ?_
      refine lv_i2l hx hb dL_law_500 rfl ?_
      refine W.lcmp hx hb dL_law_501 ?_
      rw [show lg_cmp v9 _ = 0 from by rw [hv9, hrw]; simp [lg_cmp]]
      refine lv_if_eq (tgt := 507) hx hb dL_law_502 (by decide) (fun _ => ?_) (fun h9 => absurd rfl h9)
      refine lv_goto (tgt := 2252) hx hb dL_law_507 (by decide) ?_
      have hl := lv_sub hl [2, 3, 4, 5, 6, 7] (l' := [(0, .ref b), (1, .ref px), (2, .ref pm), (3, .ref po), (4, .ref pd), (5, .int (nI (4 * k)))]) rfl
      refine W.widen (k := 60 + 20 * (k + 1) + 37 * t) (n := 400 + 120 * (k + 1) + 162 * t) (by omega) (by omega) ?_
      refine W.base ?_
      exact hN s.drawn L κ g3 _ _ _ _ (Drawn.sameBut.refl _ _) hJ hko hkd hI hl
  · rcases hp with ⟨⟨_, q1⟩ | ⟨q0, _⟩, hp⟩
    · cases hp
      refine lv_istore (lv' := [(6, .int 1), (0, .ref b), (1, .ref px), (2, .ref pm), (3, .ref po), (4, .ref pd), (5, .int (nI (4 * k)))]) hx hb dL_law_459 hl (by decide) rfl (fun ls hl => ?_)
      refine lv_aload_n hx hb dL_law_461 rfl (lv_at hl 3 rfl) ?_
      refine lv_aload_n hx hb dL_law_462 rfl (lv_at hl 1 rfl) ?_
      refine lv_iload hx hb dL_law_463 (lv_at hl 6 rfl) ?_
      refine lv_iconst (v := 1) hx hb dL_law_465 (by decide) ?_
      refine lv_iadd hx hb dL_law_466 ?_
      rw [show nI (4 * k) + 1 = nI (4 * k + 1) from nI_add _ _]
      refine va_sld hx hb hX hbl hbA hI.2.1 (vp_in_nI (show 4 * k + 1 < N from by omega) (by omega)) dL_law_467 ?_
      refine lv_aload_n hx hb dL_law_468 rfl (lv_at hl 1 rfl) ?_
      refine lv_iload hx hb dL_law_469 (lv_at hl 6 rfl) ?_
      refine lv_iconst (v := 2) hx hb dL_law_471 (by decide) ?_
      refine lv_iadd hx hb dL_law_472 ?_
      rw [show nI (4 * k) + 2 = nI (4 * k + 2) from nI_add _ _]
      refine va_sld hx hb hX hbl hbA hI.2.1 (vp_in_nI (show 4 * k + 2 < N from by omega) (by omega)) dL_law_473 ?_
      refine z_ci hI (va_runV (As := [.int (xs (nI (4 * k + 1)).toNatClampNeg), .int (xs (nI (4 * k + 2)).toNatClampNeg)]) (rest := []) ⟨hx, hb, hml, hown, hts⟩ (c_X11_move l D tc z0 _ κ g _ pm hkm (xs (nI (4 * k + 1)).toNatClampNeg) (xs (nI (4 * k + 2)).toNatClampNeg) lc eC nC mC cf lt eT nT mT tf hMo) (cwV 2 hts gL_law_X11_move rfl rfl rfl (by decide +kernel) ⟨Nat.le_of_ble_eq_true rfl, Nat.le_of_ble_eq_true rfl⟩) (z_preV (Xc := []) hK hE hI [] rfl rfl (z_recv hK hI hkm rfl rfl)) rfl rfl hl.1 rfl (lv_room (Nat.le_of_ble_eq_true rfl)) dL_law_474 ⟨(show 60 + 20 * k + 37 * t + 3 + 0 ≤ 746514 from by omega), (show 400 + 120 * k + 162 * t + 18 + 0 ≤ 6862693 from by omega)⟩) (fun w u H locs hw hI => ?_)
      rcases hw with ⟨v8, ⟨rfl, hno⟩ | ⟨rfl, i8, j8, hi8, hx8, hj8, hy8, w3⟩, hu⟩ | ⟨i8, j8, hi8, hx8, hj8, hy8, w3, w5, hu⟩
      · skip
        cases hu
        have hJ : zJ κ (zup g pm 12 (.int 1)) z0 px pm rq co sp aC aT t := hJ.upM (by decide)
        have hI : zI D tc (zA [] [] s.heap.size) s.heap [] L κ (zup g pm 12 (.int 1)) H locs := hI
        have hcd : (zup g pm 12 (.int 1)) pm 12 = .int 1 := zup_self _ _ _ _
        generalize (zup g pm 12 (.int 1)) = g3 at hI hJ hcd
        refine lv_istore (lv' := [(7, .int w), (6, .int 1), (0, .ref b), (1, .ref px), (2, .ref pm), (3, .ref po), (4, .ref pd), (5, .int (nI (4 * k)))]) hx hb dL_law_477 hl (by decide) rfl (fun ls hl => ?_)
        refine lv_aload_n hx hb dL_law_479 rfl (lv_at hl 4 rfl) ?_
        refine z_ci hI (va_runV (As := []) (rest := []) ⟨hx, hb, hml, hown, hts⟩ (c_X11_thrown l D tc z0 _ κ g3 _ pm hkm) (cwV 0 hts gL_law_X11_thrown rfl rfl rfl (by decide +kernel) ⟨Nat.le_of_ble_eq_true rfl, Nat.le_of_ble_eq_true rfl⟩) (z_preV (Xc := []) hK hE hI [] rfl rfl (z_recv hK hI hkm rfl rfl)) rfl rfl hl.1 rfl (lv_room (Nat.le_of_ble_eq_true rfl)) dL_law_480 ⟨(show 60 + 20 * k + 37 * t + 3 + 0 + 0 ≤ 746514 from by omega), (show 400 + 120 * k + 162 * t + 18 + 0 + 0 ≤ 6862693 from by omega)⟩) (fun w2 u H locs hw hI => ?_)
        obtain ⟨hw2, rfl⟩ := hw
        have hI : zI D tc (zA [] [] s.heap.size) s.heap [] L κ g3 H locs := hI
        obtain rfl : w2 = 1 := Value.int.inj (hw2.symm.trans hcd)
        refine lv_iload hx hb dL_law_483 (lv_at hl 1 rfl) ?_
        refine lv_icmp_eq (tgt := 490) hx hb dL_law_485 (by decide) (fun _ => ?_) (fun hne => absurd rfl hne)
        refine lv_iload hx hb dL_law_490 (lv_at hl 1 rfl) ?_
        refine lv_if_ne (tgt := 507) hx hb dL_law_492 (by decide) (fun _ => ?_) (fun h9 => absurd h9 (by decide))
        refine lv_goto (tgt := 2252) hx hb dL_law_507 (by decide) ?_
        have hl := lv_sub hl [2, 3, 4, 5, 6, 7] (l' := [(0, .ref b), (1, .ref px), (2, .ref pm), (3, .ref po), (4, .ref pd), (5, .int (nI (4 * k)))]) rfl
        refine W.widen (k := 60 + 20 * (k + 1) + 37 * t) (n := 400 + 120 * (k + 1) + 162 * t) (by omega) (by omega) ?_
        refine W.base ?_
        exact hN s.drawn L κ g3 _ _ _ _ (Drawn.sameBut.refl _ _) hJ hko hkd hI hl
      · exact (q1.elim (fun h => h ((hTh.has hMo.bT (by decide)).mpr ⟨i8, hi8, hx8⟩)) (fun h => h ((hCo.has hMo.bC (by decide)).mpr ⟨j8, hj8, hy8⟩))).elim
      · exact (q1.elim (fun h => h ((hTh.has hMo.bT (by decide)).mpr ⟨i8, hi8, hx8⟩)) (fun h => h ((hCo.has hMo.bC (by decide)).mpr ⟨j8, hj8, hy8⟩))).elim
    · exact absurd q0 (by decide)
  · rcases hp with ⟨⟨q0, _⟩ | ⟨_, qh, q1, a, q2, q4⟩, hp⟩
    · exact absurd q0 (by decide)
    · cases hp
      obtain ⟨i9, hi9, hx9⟩ : ∃ i9, i9 < nT ∧ ((xs (nI (4 * k + 1)).toNatClampNeg)) = nI i9 := (hTh.has hMo.bT (by decide)).mp ⟨q1, _, q2⟩
      rw [hx9] at q2
      obtain ⟨hia, hka, hkc, hps⟩ := hTh.nth hMo.bT (by decide) hi9 q2
      obtain ⟨j9, hj9, hy9⟩ := (hCo.has hMo.bC (by decide)).mp qh
      refine lv_istore (lv' := [(6, .int 2), (0, .ref b), (1, .ref px), (2, .ref pm), (3, .ref po), (4, .ref pd), (5, .int (nI (4 * k)))]) hx hb dL_law_459 hl (by decide) rfl (fun ls hl => ?_)
      refine lv_aload_n hx hb dL_law_461 rfl (lv_at hl 3 rfl) ?_
      refine lv_aload_n hx hb dL_law_462 rfl (lv_at hl 1 rfl) ?_
      refine lv_iload hx hb dL_law_463 (lv_at hl 6 rfl) ?_
      refine lv_iconst (v := 1) hx hb dL_law_465 (by decide) ?_
      refine lv_iadd hx hb dL_law_466 ?_
      rw [show nI (4 * k) + 1 = nI (4 * k + 1) from nI_add _ _]
      refine va_sld hx hb hX hbl hbA hI.2.1 (vp_in_nI (show 4 * k + 1 < N from by omega) (by omega)) dL_law_467 ?_
      refine lv_aload_n hx hb dL_law_468 rfl (lv_at hl 1 rfl) ?_
      refine lv_iload hx hb dL_law_469 (lv_at hl 6 rfl) ?_
      refine lv_iconst (v := 2) hx hb dL_law_471 (by decide) ?_
      refine lv_iadd hx hb dL_law_472 ?_
      rw [show nI (4 * k) + 2 = nI (4 * k + 2) from nI_add _ _]
      refine va_sld hx hb hX hbl hbA hI.2.1 (vp_in_nI (show 4 * k + 2 < N from by omega) (by omega)) dL_law_473 ?_
      refine z_ci hI (va_runV (As := [.int (xs (nI (4 * k + 1)).toNatClampNeg), .int (xs (nI (4 * k + 2)).toNatClampNeg)]) (rest := []) ⟨hx, hb, hml, hown, hts⟩ (c_X11_move l D tc z0 _ κ g _ pm hkm (xs (nI (4 * k + 1)).toNatClampNeg) (xs (nI (4 * k + 2)).toNatClampNeg) lc eC nC mC cf lt eT nT mT tf hMo) (cwV 2 hts gL_law_X11_move rfl rfl rfl (by decide +kernel) ⟨Nat.le_of_ble_eq_true rfl, Nat.le_of_ble_eq_true rfl⟩) (z_preV (Xc := []) hK hE hI [] rfl rfl (z_recv hK hI hkm rfl rfl)) rfl rfl hl.1 rfl (lv_room (Nat.le_of_ble_eq_true rfl)) dL_law_474 ⟨(show 60 + 20 * k + 37 * t + 3 + 0 ≤ 746514 from by omega), (show 400 + 120 * k + 162 * t + 18 + 0 ≤ 6862693 from by omega)⟩) (fun w u H locs hw hI => ?_)
      rcases hw with ⟨v8, ⟨rfl, hno⟩ | ⟨rfl, i8, j8, hi8, hx8, hj8, hy8, w3⟩, hu⟩ | ⟨i8, j8, hi8, hx8, hj8, hy8, w3, w5, hu⟩
      · exact hno.elim (fun h => absurd hx9 (h i9 hi9)) (fun h => absurd hy9 (h j9 hj9))
      · skip
        cases hu
        have hJ : zJ κ (zup g pm 12 (.int 2)) z0 px pm rq co sp aC aT t := hJ.upM (by decide)
        have hI : zI D tc (zA [] [] s.heap.size) s.heap [] L κ (zup g pm 12 (.int 2)) H locs := hI
        have hcd : (zup g pm 12 (.int 2)) pm 12 = .int 2 := zup_self _ _ _ _
        generalize (zup g pm 12 (.int 2)) = g3 at hI hJ hcd
        refine lv_istore (lv' := [(7, .int w), (6, .int 2), (0, .ref b), (1, .ref px), (2, .ref pm), (3, .ref po), (4, .ref pd), (5, .int (nI (4 * k)))]) hx hb dL_law_477 hl (by decide) rfl (fun ls hl => ?_)
        refine lv_aload_n hx hb dL_law_479 rfl (lv_at hl 4 rfl) ?_
        refine z_ci hI (va_runV (As := []) (rest := []) ⟨hx, hb, hml, hown, hts⟩ (c_X11_thrown l D tc z0 _ κ g3 _ pm hkm) (cwV 0 hts gL_law_X11_thrown rfl rfl rfl (by decide +kernel) ⟨Nat.le_of_ble_eq_true rfl, Nat.le_of_ble_eq_true rfl⟩) (z_preV (Xc := []) hK hE hI [] rfl rfl (z_recv hK hI hkm rfl rfl)) rfl rfl hl.1 rfl (lv_room (Nat.le_of_ble_eq_true rfl)) dL_law_480 ⟨(show 60 + 20 * k + 37 * t + 3 + 0 + 0 ≤ 746514 from by omega), (show 400 + 120 * k + 162 * t + 18 + 0 + 0 ≤ 6862693 from by omega)⟩) (fun w2 u H locs hw hI => ?_)
        obtain ⟨hw2, rfl⟩ := hw
        have hI : zI D tc (zA [] [] s.heap.size) s.heap [] L κ g3 H locs := hI
        obtain rfl : w2 = 2 := Value.int.inj (hw2.symm.trans hcd)
        refine lv_iload hx hb dL_law_483 (lv_at hl 1 rfl) ?_
        refine lv_icmp_eq (tgt := 490) hx hb dL_law_485 (by decide) (fun _ => ?_) (fun hne => absurd rfl hne)
        refine lv_iload hx hb dL_law_490 (lv_at hl 1 rfl) ?_
        refine lv_if_ne (tgt := 507) hx hb dL_law_492 (by decide) (fun _ => ?_) (fun h9 => absurd h9 (by decide))
        refine lv_goto (tgt := 2252) hx hb dL_law_507 (by decide) ?_
        have hl := lv_sub hl [2, 3, 4, 5, 6, 7] (l' := [(0, .ref b), (1, .ref px), (2, .ref pm), (3, .ref po), (4, .ref pd), (5, .int (nI (4 * k)))]) rfl
        refine W.widen (k := 60 + 20 * (k + 1) + 37 * t) (n := 400 + 120 * (k + 1) + 162 * t) (by omega) (by omega) ?_
        refine W.base ?_
        exact hN s.drawn L κ g3 _ _ _ _ (Drawn.sameBut.refl _ _) hJ hko hkd hI hl
      · have e8 : i8 = i9 := (nI_eq (by omega) (by omega)).mp (hx8.symm.trans hx9)
        rw [e8] at w3
        exact absurd ((Value.int.inj (w3.symm.trans ((hps (1, 1) (by decide)).symm.trans q4))).trans hy8) w5

set_option maxHeartbeats 4000000 in
set_option maxRecDepth 100000 in
theorem k_governor (l : Launch) (hnt : l.stackTraces = false) {p : Program} {e : Env} {s : State} {m : MethodId} {below : List Frame} {meth : Method} {c : Code} {H : Heap} {locs : List Loc} {Q : State → Prop} {D : va_G} {tc : Nat → ClassId} {z0 b N : Nat} {xs : Nat → Int32} {px pm po pd rq co sp aC aT t k : Nat} {L : List Nat} {κ : Nat → Nat} {g : Nat → Nat → Value} {ls : Array Slot} (C : lwC p s m meth c b N xs D tc z0) (hk : 4 * k + 4 ≤ N) (hN8 : N ≤ 2048) (hJ : zJ κ g z0 px pm rq co sp aC aT t) (h0 : (∀ j, g aC j = .null) ∧ ∀ j, g aT j = .null) (hko : κ po = 29) (hkd : κ pd = 30) (hI : zI D tc (zA [] [] s.heap.size) s.heap [] L κ g H locs) (hl : lv_has ls 9 [(0, .ref b), (1, .ref px), (2, .ref pm), (3, .ref po), (4, .ref pd), (5, .int (nI (4 * k)))]) (hN : lwN p l e s m below meth c b D tc z0 px pm po pd rq co sp aC aT k Q) : W p l e room_1 s m #[Value.ref b] below meth c H locs (60 + 20 * k + 37 * t) (400 + 120 * k + 162 * t) Q (F0 m 510 ls []) := by
  obtain ⟨hx, hb, hml, hown, hts, hK, hE, hX, hbl⟩ := C
  have hbA : ¬ zA [] [] s.heap.size b := fun q => by rcases q with q | q | q; exact absurd q List.not_mem_nil; exact absurd q List.not_mem_nil; exact absurd hbl (Nat.not_lt.mpr q)
  have htb9 : t ≤ 9999 := hJ.1.2.2.1.2
  refine lv_aload_n hx hb dL_law_510 rfl (lv_at hl 1 rfl) ?_
  refine lv_aload_n hx hb dL_law_511 rfl (lv_at hl 0 rfl) ?_
  refine lv_iload hx hb dL_law_512 (lv_at hl 5 rfl) ?_
  refine lv_iconst (v := 1) hx hb dL_law_514 (by decide) ?_
  refine lv_iadd hx hb dL_law_515 ?_
  rw [show nI (4 * k) + 1 = nI (4 * k + 1) from nI_add _ _]
  refine va_sld hx hb hX hbl hbA hI.2.1 (vp_in_nI (show 4 * k + 1 < N from by omega) (by omega)) dL_law_516 ?_
  refine lv_aload_n hx hb dL_law_517 rfl (lv_at hl 0 rfl) ?_
  refine lv_iload hx hb dL_law_518 (lv_at hl 5 rfl) ?_
  refine lv_iconst (v := 2) hx hb dL_law_520 (by decide) ?_
  refine lv_iadd hx hb dL_law_521 ?_
  rw [show nI (4 * k) + 2 = nI (4 * k + 2) from nI_add _ _]
  refine va_sld hx hb hX hbl hbA hI.2.1 (vp_in_nI (show 4 * k + 2 < N from by omega) (by omega)) dL_law_522 ?_
  refine lv_i2c hx hb dL_law_523 rfl ?_
  refine lv_aload_n hx hb dL_law_524 rfl (lv_at hl 0 rfl) ?_
  refine lv_iload hx hb dL_law_525 (lv_at hl 5 rfl) ?_
  refine lv_iconst (v := 3) hx hb dL_law_527 (by decide) ?_
  refine lv_iadd hx hb dL_law_528 ?_
  rw [show nI (4 * k) + 3 = nI (4 * k + 3) from nI_add _ _]
  refine va_sld hx hb hX hbl hbA hI.2.1 (vp_in_nI (show 4 * k + 3 < N from by omega) (by omega)) dL_law_529 ?_
  refine lv_aload_n hx hb dL_law_530 rfl (lv_at hl 3 rfl) ?_
  obtain ⟨⟨⟨hkx, hkm, hkq, hkO, hkS, hkC, hkT⟩, ⟨hR, hO, hS9, hC, hT⟩, ⟨htM, htb⟩, lc, eC, nC, mC, cf, lt, eT, nT, mT, tf, hMo, hCo, hTh⟩, a0, a1, a2, a3, a4, a5, a6, a7⟩ := id hJ
  refine z_xi hI (vx_runSX (As := [.ref px, .int (xs (nI (4 * k + 1)).toNatClampNeg), .int (((xs (nI (4 * k + 2)).toNatClampNeg).toUInt32 % 65536).toInt32), .int (xs (nI (4 * k + 3)).toNatClampNeg), .ref po]) (rest := []) ⟨hx, hb, hml, hown, hts⟩ (c_L_governor l hnt D tc z0 _ κ g _ px hkx (xs (nI (4 * k + 1)).toNatClampNeg) (((xs (nI (4 * k + 2)).toNatClampNeg).toUInt32 % 65536).toInt32) (pk_fc _) (xs (nI (4 * k + 3)).toNatClampNeg) po hko aC hC) (vx_cwSW 5 hts gL_law_L_governor rfl rfl rfl (by decide +kernel) ⟨Nat.le_of_ble_eq_true rfl, Nat.le_of_ble_eq_true rfl⟩) (z_pre (Xc := []) hK hE hI [] rfl rfl) rfl rfl hl.1 rfl (lv_room (Nat.le_of_ble_eq_true rfl)) dL_law_531 ⟨(show 60 + 20 * k + 37 * t + 2 ≤ 746514 from by omega), (show 400 + 120 * k + 162 * t + 12 ≤ 6862693 from by omega)⟩) (fun E ce q9 u H locs hw hI he1 he2 he3 => hw.elim) (fun v u H locs hw hI => ?_)
  have hbC := hMo.bC
  have hbT := hMo.bT
  rcases hw with ⟨rfl, r1, u1, v9, hp, hv9, hu⟩ | ⟨rfl, hp⟩ | ⟨rfl, hp⟩
  · obtain ⟨a, hka, q1, q2, q4, qb, hp⟩ := hp
    cases hp
    cases hu
    obtain ⟨i9, hi9, hx9⟩ : ∃ i9, i9 < nC ∧ ((xs (nI (4 * k + 1)).toNatClampNeg)) = nI i9 := (hCo.has hMo.bC (by decide)).mp ⟨q1, _, q2⟩
    rw [hx9] at q2
    obtain ⟨hia, -, hkc, hps⟩ := hCo.nth hMo.bC (by decide) hi9 q2
    have hM1 : zMo κ (zup (zup g a 3 (.int ((((xs (nI (4 * k + 2)).toNatClampNeg).toUInt32 % 65536).toInt32)))) po 0 (.long v9)) z0 pm lc eC nC mC cf lt eT nT mT tf := (hMo.upO hka (by decide)).upO hko (by decide)
    have hI : zI D tc (zA [] [] s.heap.size) s.heap [] L κ (zup (zup g a 3 (.int ((((xs (nI (4 * k + 2)).toNatClampNeg).toUInt32 % 65536).toInt32)))) po 0 (.long v9)) H locs := hI
    obtain ⟨g1, hg1⟩ : ∃ x, x = (zup (zup g a 3 (.int ((((xs (nI (4 * k + 2)).toNatClampNeg).toUInt32 % 65536).toInt32)))) po 0 (.long v9)) := ⟨_, rfl⟩
    rw [← hg1] at hI hM1
    refine lv_istore (lv' := [(6, .int 0), (0, .ref b), (1, .ref px), (2, .ref pm), (3, .ref po), (4, .ref pd), (5, .int (nI (4 * k)))]) hx hb dL_law_534 hl (by decide) rfl (fun ls hl => ?_)
    refine lv_aload_n hx hb dL_law_536 rfl (lv_at hl 3 rfl) ?_
    refine lv_aload_n hx hb dL_law_537 rfl (lv_at hl 1 rfl) ?_
    refine lv_iload hx hb dL_law_538 (lv_at hl 6 rfl) ?_
    refine lv_iconst (v := 1) hx hb dL_law_540 (by decide) ?_
    refine lv_iadd hx hb dL_law_541 ?_
    rw [show nI (4 * k) + 1 = nI (4 * k + 1) from nI_add _ _]
    refine va_sld hx hb hX hbl hbA hI.2.1 (vp_in_nI (show 4 * k + 1 < N from by omega) (by omega)) dL_law_542 ?_
    refine lv_aload_n hx hb dL_law_543 rfl (lv_at hl 1 rfl) ?_
    refine lv_iload hx hb dL_law_544 (lv_at hl 6 rfl) ?_
    refine lv_iconst (v := 2) hx hb dL_law_546 (by decide) ?_
    refine lv_iadd hx hb dL_law_547 ?_
    rw [show nI (4 * k) + 2 = nI (4 * k + 2) from nI_add _ _]
    refine va_sld hx hb hX hbl hbA hI.2.1 (vp_in_nI (show 4 * k + 2 < N from by omega) (by omega)) dL_law_548 ?_
    refine lv_i2c hx hb dL_law_549 rfl ?_
    refine lv_aload_n hx hb dL_law_550 rfl (lv_at hl 1 rfl) ?_
    refine lv_iload hx hb dL_law_551 (lv_at hl 6 rfl) ?_
    refine lv_iconst (v := 3) hx hb dL_law_553 (by decide) ?_
    refine lv_iadd hx hb dL_law_554 ?_
    rw [show nI (4 * k) + 3 = nI (4 * k + 3) from nI_add _ _]
    refine va_sld hx hb hX hbl hbA hI.2.1 (vp_in_nI (show 4 * k + 3 < N from by omega) (by omega)) dL_law_555 ?_
    refine z_ci hI (va_runV (As := [.int (xs (nI (4 * k + 1)).toNatClampNeg), .int (((xs (nI (4 * k + 2)).toNatClampNeg).toUInt32 % 65536).toInt32), .int (xs (nI (4 * k + 3)).toNatClampNeg)]) (rest := []) ⟨hx, hb, hml, hown, hts⟩ (c_X11_governor l D tc z0 _ κ g1 _ pm hkm (xs (nI (4 * k + 1)).toNatClampNeg) (((xs (nI (4 * k + 2)).toNatClampNeg).toUInt32 % 65536).toInt32) (pk_fc _) (xs (nI (4 * k + 3)).toNatClampNeg) lc eC nC mC cf lt eT nT mT tf hM1) (cwV 3 hts gL_law_X11_governor rfl rfl rfl (by decide +kernel) ⟨Nat.le_of_ble_eq_true rfl, Nat.le_of_ble_eq_true rfl⟩) (z_preV (Xc := []) hK hE hI [] rfl rfl (z_recv hK hI hkm rfl rfl)) rfl rfl hl.1 rfl (lv_room (Nat.le_of_ble_eq_true rfl)) dL_law_556 ⟨(show 60 + 20 * k + 37 * t + 2 + 0 ≤ 746514 from by omega), (show 400 + 120 * k + 162 * t + 12 + 0 ≤ 6862693 from by omega)⟩) (fun w u H locs hw hI => ?_)
    rcases hw with ⟨v8, ⟨rfl, hno⟩ | ⟨rfl, hex, hng⟩, hu⟩ | ⟨i8, hi8, hx8, w3, w5, hu⟩
    · exact absurd hx9 (hno i9 hi9)
    · exact absurd qb hng
    · have e8 : i8 = i9 := (nI_eq (by omega) (by omega)).mp (hx8.symm.trans hx9)
      rw [e8] at w3 hu
      cases hu
      have hgc : g1 (cf i9) 3 = g (cf i9) 3 := by rw [hg1]; exact (zup_a (z_apart hkc hko (by decide))).trans (zup_a (z_apart hkc hka (by decide)))
      have hrw : r1 = w := Value.int.inj (q4.symm.trans ((hps (3, 3) (by decide)).trans (hgc.symm.trans w3)))
      rw [hg1] at hI
      have hJ : zJ κ (zup (zup (zup (zup g a 3 (.int ((((xs (nI (4 * k + 2)).toNatClampNeg).toUInt32 % 65536).toInt32)))) po 0 (.long v9)) pm 12 (.int 0)) (cf i9) 3 (.int ((((xs (nI (4 * k + 2)).toNatClampNeg).toUInt32 % 65536).toInt32)))) z0 px pm rq co sp aC aT t := zJ.setC hJ hMo hCo hTh hi9 hia hka hkc hko (by decide)
      have hI : zI D tc (zA [] [] s.heap.size) s.heap [] L κ (zup (zup (zup (zup g a 3 (.int ((((xs (nI (4 * k + 2)).toNatClampNeg).toUInt32 % 65536).toInt32)))) po 0 (.long v9)) pm 12 (.int 0)) (cf i9) 3 (.int ((((xs (nI (4 * k + 2)).toNatClampNeg).toUInt32 % 65536).toInt32)))) H locs := hI
      have hcd : (zup (zup (zup (zup g a 3 (.int ((((xs (nI (4 * k + 2)).toNatClampNeg).toUInt32 % 65536).toInt32)))) po 0 (.long v9)) pm 12 (.int 0)) (cf i9) 3 (.int ((((xs (nI (4 * k + 2)).toNatClampNeg).toUInt32 % 65536).toInt32)))) pm 12 = .int 0 := (zup_a (z_apart hkm hkc (by decide))).trans (zup_self _ _ _ _)
      have hpo : (zup (zup (zup (zup g a 3 (.int ((((xs (nI (4 * k + 2)).toNatClampNeg).toUInt32 % 65536).toInt32)))) po 0 (.long v9)) pm 12 (.int 0)) (cf i9) 3 (.int ((((xs (nI (4 * k + 2)).toNatClampNeg).toUInt32 % 65536).toInt32)))) po 0 = .long v9 := ((zup_a (z_apart hko hkc (by decide))).trans (zup_a (z_apart hko hkm (by decide)))).trans (zup_self _ _ _ _)
      generalize (zup (zup (zup (zup g a 3 (.int ((((xs (nI (4 * k + 2)).toNatClampNeg).toUInt32 % 65536).toInt32)))) po 0 (.long v9)) pm 12 (.int 0)) (cf i9) 3 (.int ((((xs (nI (4 * k + 2)).toNatClampNeg).toUInt32 % 65536).toInt32)))) = g3 at hI hJ hcd hpo
      refine lv_istore (lv' := [(7, .int w), (6, .int 0), (0, .ref b), (1, .ref px), (2, .ref pm), (3, .ref po), (4, .ref pd), (5, .int (nI (4 * k)))]) hx hb dL_law_559 hl (by decide) rfl (fun ls hl => ?_)
      refine lv_aload_n hx hb dL_law_561 rfl (lv_at hl 4 rfl) ?_
      refine z_ci hI (va_runV (As := []) (rest := []) ⟨hx, hb, hml, hown, hts⟩ (c_X11_thrown l D tc z0 _ κ g3 _ pm hkm) (cwV 0 hts gL_law_X11_thrown rfl rfl rfl (by decide +kernel) ⟨Nat.le_of_ble_eq_true rfl, Nat.le_of_ble_eq_true rfl⟩) (z_preV (Xc := []) hK hE hI [] rfl rfl (z_recv hK hI hkm rfl rfl)) rfl rfl hl.1 rfl (lv_room (Nat.le_of_ble_eq_true rfl)) dL_law_562 ⟨(show 60 + 20 * k + 37 * t + 2 + 0 + 0 ≤ 746514 from by omega), (show 400 + 120 * k + 162 * t + 12 + 0 + 0 ≤ 6862693 from by omega)⟩) (fun w2 u H locs hw hI => ?_)
      obtain ⟨hw2, rfl⟩ := hw
      have hI : zI D tc (zA [] [] s.heap.size) s.heap [] L κ g3 H locs := hI
      obtain rfl : w2 = 0 := Value.int.inj (hw2.symm.trans hcd)
      refine lv_iload hx hb dL_law_565 (lv_at hl 1 rfl) ?_
      refine lv_icmp_eq (tgt := 572) hx hb dL_law_567 (by decide) (fun _ => ?_) (fun hne => absurd rfl hne)
      refine lv_iload hx hb dL_law_572 (lv_at hl 1 rfl) ?_
      refine lv_if_ne (tgt := 589) hx hb dL_law_574 (by decide) (fun h9 => absurd rfl h9) (fun _ => ?_)
      refine lv_aload_n hx hb dL_law_577 rfl (lv_at hl 5 rfl) ?_
      refine lv_iconst (v := 0) hx hb dL_law_578 (by decide) ?_
      have hM : zM p s m c cL_law #[Value.ref b] wsL_law RL D tc := ⟨hx, hb, hts, hown, hK⟩
      refine z_lald hM hI hko rfl rfl (vp_in_c 0 1 (by decide)) dL_law_579 (fun x9 hx9 => ?_)
      obtain ⟨hx9, -⟩ := hx9
      rw [show x9 = v9 from Value.long.inj (hx9.trans hpo)]
      refine lv_iload hx hb dL_law_580 (lv_at hl 0 rfl) ?_
      refine lv_i2l hx hb dL_law_582 rfl ?_
      refine W.lcmp hx hb dL_law_583 ?_
      rw [show lg_cmp v9 _ = 0 from by rw [hv9, hrw]; simp [lg_cmp]]
      refine lv_if_eq (tgt := 589) hx hb dL_law_584 (by decide) (fun _ => ?_) (fun h9 => absurd rfl h9)
      refine lv_goto (tgt := 2252) hx hb dL_law_589 (by decide) ?_
      have hl := lv_sub hl [2, 3, 4, 5, 6, 7] (l' := [(0, .ref b), (1, .ref px), (2, .ref pm), (3, .ref po), (4, .ref pd), (5, .int (nI (4 * k)))]) rfl
      refine W.widen (k := 60 + 20 * (k + 1) + 37 * t) (n := 400 + 120 * (k + 1) + 162 * t) (by omega) (by omega) ?_
      refine W.base ?_
      exact hN s.drawn L κ g3 _ _ _ _ (Drawn.sameBut.refl _ _) hJ hko hkd hI hl
  · rcases hp with ⟨⟨_, q1⟩ | ⟨q0, _⟩, hp⟩
    · cases hp
      refine lv_istore (lv' := [(6, .int 1), (0, .ref b), (1, .ref px), (2, .ref pm), (3, .ref po), (4, .ref pd), (5, .int (nI (4 * k)))]) hx hb dL_law_534 hl (by decide) rfl (fun ls hl => ?_)
      refine lv_aload_n hx hb dL_law_536 rfl (lv_at hl 3 rfl) ?_
      refine lv_aload_n hx hb dL_law_537 rfl (lv_at hl 1 rfl) ?_
      refine lv_iload hx hb dL_law_538 (lv_at hl 6 rfl) ?_
      refine lv_iconst (v := 1) hx hb dL_law_540 (by decide) ?_
      refine lv_iadd hx hb dL_law_541 ?_
      rw [show nI (4 * k) + 1 = nI (4 * k + 1) from nI_add _ _]
      refine va_sld hx hb hX hbl hbA hI.2.1 (vp_in_nI (show 4 * k + 1 < N from by omega) (by omega)) dL_law_542 ?_
      refine lv_aload_n hx hb dL_law_543 rfl (lv_at hl 1 rfl) ?_
      refine lv_iload hx hb dL_law_544 (lv_at hl 6 rfl) ?_
      refine lv_iconst (v := 2) hx hb dL_law_546 (by decide) ?_
      refine lv_iadd hx hb dL_law_547 ?_
      rw [show nI (4 * k) + 2 = nI (4 * k + 2) from nI_add _ _]
      refine va_sld hx hb hX hbl hbA hI.2.1 (vp_in_nI (show 4 * k + 2 < N from by omega) (by omega)) dL_law_548 ?_
      refine lv_i2c hx hb dL_law_549 rfl ?_
      refine lv_aload_n hx hb dL_law_550 rfl (lv_at hl 1 rfl) ?_
      refine lv_iload hx hb dL_law_551 (lv_at hl 6 rfl) ?_
      refine lv_iconst (v := 3) hx hb dL_law_553 (by decide) ?_
      refine lv_iadd hx hb dL_law_554 ?_
      rw [show nI (4 * k) + 3 = nI (4 * k + 3) from nI_add _ _]
      refine va_sld hx hb hX hbl hbA hI.2.1 (vp_in_nI (show 4 * k + 3 < N from by omega) (by omega)) dL_law_555 ?_
      refine z_ci hI (va_runV (As := [.int (xs (nI (4 * k + 1)).toNatClampNeg), .int (((xs (nI (4 * k + 2)).toNatClampNeg).toUInt32 % 65536).toInt32), .int (xs (nI (4 * k + 3)).toNatClampNeg)]) (rest := []) ⟨hx, hb, hml, hown, hts⟩ (c_X11_governor l D tc z0 _ κ g _ pm hkm (xs (nI (4 * k + 1)).toNatClampNeg) (((xs (nI (4 * k + 2)).toNatClampNeg).toUInt32 % 65536).toInt32) (pk_fc _) (xs (nI (4 * k + 3)).toNatClampNeg) lc eC nC mC cf lt eT nT mT tf hMo) (cwV 3 hts gL_law_X11_governor rfl rfl rfl (by decide +kernel) ⟨Nat.le_of_ble_eq_true rfl, Nat.le_of_ble_eq_true rfl⟩) (z_preV (Xc := []) hK hE hI [] rfl rfl (z_recv hK hI hkm rfl rfl)) rfl rfl hl.1 rfl (lv_room (Nat.le_of_ble_eq_true rfl)) dL_law_556 ⟨(show 60 + 20 * k + 37 * t + 2 + 0 ≤ 746514 from by omega), (show 400 + 120 * k + 162 * t + 12 + 0 ≤ 6862693 from by omega)⟩) (fun w u H locs hw hI => ?_)
      rcases hw with ⟨v8, ⟨rfl, hno⟩ | ⟨rfl, hex, hng⟩, hu⟩ | ⟨i8, hi8, hx8, w3, w5, hu⟩
      · skip
        cases hu
        have hJ : zJ κ (zup g pm 12 (.int 1)) z0 px pm rq co sp aC aT t := hJ.upM (by decide)
        have hI : zI D tc (zA [] [] s.heap.size) s.heap [] L κ (zup g pm 12 (.int 1)) H locs := hI
        have hcd : (zup g pm 12 (.int 1)) pm 12 = .int 1 := zup_self _ _ _ _
        generalize (zup g pm 12 (.int 1)) = g3 at hI hJ hcd
        refine lv_istore (lv' := [(7, .int w), (6, .int 1), (0, .ref b), (1, .ref px), (2, .ref pm), (3, .ref po), (4, .ref pd), (5, .int (nI (4 * k)))]) hx hb dL_law_559 hl (by decide) rfl (fun ls hl => ?_)
        refine lv_aload_n hx hb dL_law_561 rfl (lv_at hl 4 rfl) ?_
        refine z_ci hI (va_runV (As := []) (rest := []) ⟨hx, hb, hml, hown, hts⟩ (c_X11_thrown l D tc z0 _ κ g3 _ pm hkm) (cwV 0 hts gL_law_X11_thrown rfl rfl rfl (by decide +kernel) ⟨Nat.le_of_ble_eq_true rfl, Nat.le_of_ble_eq_true rfl⟩) (z_preV (Xc := []) hK hE hI [] rfl rfl (z_recv hK hI hkm rfl rfl)) rfl rfl hl.1 rfl (lv_room (Nat.le_of_ble_eq_true rfl)) dL_law_562 ⟨(show 60 + 20 * k + 37 * t + 2 + 0 + 0 ≤ 746514 from by omega), (show 400 + 120 * k + 162 * t + 12 + 0 + 0 ≤ 6862693 from by omega)⟩) (fun w2 u H locs hw hI => ?_)
        obtain ⟨hw2, rfl⟩ := hw
        have hI : zI D tc (zA [] [] s.heap.size) s.heap [] L κ g3 H locs := hI
        obtain rfl : w2 = 1 := Value.int.inj (hw2.symm.trans hcd)
        refine lv_iload hx hb dL_law_565 (lv_at hl 1 rfl) ?_
        refine lv_icmp_eq (tgt := 572) hx hb dL_law_567 (by decide) (fun _ => ?_) (fun hne => absurd rfl hne)
        refine lv_iload hx hb dL_law_572 (lv_at hl 1 rfl) ?_
        refine lv_if_ne (tgt := 589) hx hb dL_law_574 (by decide) (fun _ => ?_) (fun h9 => absurd h9 (by decide))
        refine lv_goto (tgt := 2252) hx hb dL_law_589 (by decide) ?_
        have hl := lv_sub hl [2, 3, 4, 5, 6, 7] (l' := [(0, .ref b), (1, .ref px), (2, .ref pm), (3, .ref po), (4, .ref pd), (5, .int (nI (4 * k)))]) rfl
        refine W.widen (k := 60 + 20 * (k + 1) + 37 * t) (n := 400 + 120 * (k + 1) + 162 * t) (by omega) (by omega) ?_
        refine W.base ?_
        exact hN s.drawn L κ g3 _ _ _ _ (Drawn.sameBut.refl _ _) hJ hko hkd hI hl
      · exact absurd ((hCo.has hMo.bC (by decide)).mpr hex) q1
      · exact absurd ((hCo.has hMo.bC (by decide)).mpr ⟨i8, hi8, hx8⟩) q1
    · exact absurd q0 (by decide)
  · rcases hp with ⟨⟨q0, _⟩ | ⟨_, q1, q3⟩, hp⟩
    · exact absurd q0 (by decide)
    · cases hp
      refine lv_istore (lv' := [(6, .int 2), (0, .ref b), (1, .ref px), (2, .ref pm), (3, .ref po), (4, .ref pd), (5, .int (nI (4 * k)))]) hx hb dL_law_534 hl (by decide) rfl (fun ls hl => ?_)
      refine lv_aload_n hx hb dL_law_536 rfl (lv_at hl 3 rfl) ?_
      refine lv_aload_n hx hb dL_law_537 rfl (lv_at hl 1 rfl) ?_
      refine lv_iload hx hb dL_law_538 (lv_at hl 6 rfl) ?_
      refine lv_iconst (v := 1) hx hb dL_law_540 (by decide) ?_
      refine lv_iadd hx hb dL_law_541 ?_
      rw [show nI (4 * k) + 1 = nI (4 * k + 1) from nI_add _ _]
      refine va_sld hx hb hX hbl hbA hI.2.1 (vp_in_nI (show 4 * k + 1 < N from by omega) (by omega)) dL_law_542 ?_
      refine lv_aload_n hx hb dL_law_543 rfl (lv_at hl 1 rfl) ?_
      refine lv_iload hx hb dL_law_544 (lv_at hl 6 rfl) ?_
      refine lv_iconst (v := 2) hx hb dL_law_546 (by decide) ?_
      refine lv_iadd hx hb dL_law_547 ?_
      rw [show nI (4 * k) + 2 = nI (4 * k + 2) from nI_add _ _]
      refine va_sld hx hb hX hbl hbA hI.2.1 (vp_in_nI (show 4 * k + 2 < N from by omega) (by omega)) dL_law_548 ?_
      refine lv_i2c hx hb dL_law_549 rfl ?_
      refine lv_aload_n hx hb dL_law_550 rfl (lv_at hl 1 rfl) ?_
      refine lv_iload hx hb dL_law_551 (lv_at hl 6 rfl) ?_
      refine lv_iconst (v := 3) hx hb dL_law_553 (by decide) ?_
      refine lv_iadd hx hb dL_law_554 ?_
      rw [show nI (4 * k) + 3 = nI (4 * k + 3) from nI_add _ _]
      refine va_sld hx hb hX hbl hbA hI.2.1 (vp_in_nI (show 4 * k + 3 < N from by omega) (by omega)) dL_law_555 ?_
      refine z_ci hI (va_runV (As := [.int (xs (nI (4 * k + 1)).toNatClampNeg), .int (((xs (nI (4 * k + 2)).toNatClampNeg).toUInt32 % 65536).toInt32), .int (xs (nI (4 * k + 3)).toNatClampNeg)]) (rest := []) ⟨hx, hb, hml, hown, hts⟩ (c_X11_governor l D tc z0 _ κ g _ pm hkm (xs (nI (4 * k + 1)).toNatClampNeg) (((xs (nI (4 * k + 2)).toNatClampNeg).toUInt32 % 65536).toInt32) (pk_fc _) (xs (nI (4 * k + 3)).toNatClampNeg) lc eC nC mC cf lt eT nT mT tf hMo) (cwV 3 hts gL_law_X11_governor rfl rfl rfl (by decide +kernel) ⟨Nat.le_of_ble_eq_true rfl, Nat.le_of_ble_eq_true rfl⟩) (z_preV (Xc := []) hK hE hI [] rfl rfl (z_recv hK hI hkm rfl rfl)) rfl rfl hl.1 rfl (lv_room (Nat.le_of_ble_eq_true rfl)) dL_law_556 ⟨(show 60 + 20 * k + 37 * t + 2 + 0 ≤ 746514 from by omega), (show 400 + 120 * k + 162 * t + 12 + 0 ≤ 6862693 from by omega)⟩) (fun w u H locs hw hI => ?_)
      rcases hw with ⟨v8, ⟨rfl, hno⟩ | ⟨rfl, hex, hng⟩, hu⟩ | ⟨i8, hi8, hx8, w3, w5, hu⟩
      · obtain ⟨i7, hi7, hx7⟩ := (hCo.has hMo.bC (by decide)).mp q1
        exact absurd hx7 (hno i7 hi7)
      · skip
        cases hu
        have hJ : zJ κ (zup g pm 12 (.int 2)) z0 px pm rq co sp aC aT t := hJ.upM (by decide)
        have hI : zI D tc (zA [] [] s.heap.size) s.heap [] L κ (zup g pm 12 (.int 2)) H locs := hI
        have hcd : (zup g pm 12 (.int 2)) pm 12 = .int 2 := zup_self _ _ _ _
        generalize (zup g pm 12 (.int 2)) = g3 at hI hJ hcd
        refine lv_istore (lv' := [(7, .int w), (6, .int 2), (0, .ref b), (1, .ref px), (2, .ref pm), (3, .ref po), (4, .ref pd), (5, .int (nI (4 * k)))]) hx hb dL_law_559 hl (by decide) rfl (fun ls hl => ?_)
        refine lv_aload_n hx hb dL_law_561 rfl (lv_at hl 4 rfl) ?_
        refine z_ci hI (va_runV (As := []) (rest := []) ⟨hx, hb, hml, hown, hts⟩ (c_X11_thrown l D tc z0 _ κ g3 _ pm hkm) (cwV 0 hts gL_law_X11_thrown rfl rfl rfl (by decide +kernel) ⟨Nat.le_of_ble_eq_true rfl, Nat.le_of_ble_eq_true rfl⟩) (z_preV (Xc := []) hK hE hI [] rfl rfl (z_recv hK hI hkm rfl rfl)) rfl rfl hl.1 rfl (lv_room (Nat.le_of_ble_eq_true rfl)) dL_law_562 ⟨(show 60 + 20 * k + 37 * t + 2 + 0 + 0 ≤ 746514 from by omega), (show 400 + 120 * k + 162 * t + 12 + 0 + 0 ≤ 6862693 from by omega)⟩) (fun w2 u H locs hw hI => ?_)
        obtain ⟨hw2, rfl⟩ := hw
        have hI : zI D tc (zA [] [] s.heap.size) s.heap [] L κ g3 H locs := hI
        obtain rfl : w2 = 2 := Value.int.inj (hw2.symm.trans hcd)
        refine lv_iload hx hb dL_law_565 (lv_at hl 1 rfl) ?_
        refine lv_icmp_eq (tgt := 572) hx hb dL_law_567 (by decide) (fun _ => ?_) (fun hne => absurd rfl hne)
        refine lv_iload hx hb dL_law_572 (lv_at hl 1 rfl) ?_
        refine lv_if_ne (tgt := 589) hx hb dL_law_574 (by decide) (fun _ => ?_) (fun h9 => absurd h9 (by decide))
        refine lv_goto (tgt := 2252) hx hb dL_law_589 (by decide) ?_
        have hl := lv_sub hl [2, 3, 4, 5, 6, 7] (l' := [(0, .ref b), (1, .ref px), (2, .ref pm), (3, .ref po), (4, .ref pd), (5, .int (nI (4 * k)))]) rfl
        refine W.widen (k := 60 + 20 * (k + 1) + 37 * t) (n := 400 + 120 * (k + 1) + 162 * t) (by omega) (by omega) ?_
        refine W.base ?_
        exact hN s.drawn L κ g3 _ _ _ _ (Drawn.sameBut.refl _ _) hJ hko hkd hI hl
      · exact absurd w5 q3

set_option maxHeartbeats 4000000 in
set_option maxRecDepth 100000 in
theorem k_work (l : Launch) (hnt : l.stackTraces = false) {p : Program} {e : Env} {s : State} {m : MethodId} {below : List Frame} {meth : Method} {c : Code} {H : Heap} {locs : List Loc} {Q : State → Prop} {D : va_G} {tc : Nat → ClassId} {z0 b N : Nat} {xs : Nat → Int32} {px pm po pd rq co sp aC aT t k : Nat} {L : List Nat} {κ : Nat → Nat} {g : Nat → Nat → Value} {ls : Array Slot} (C : lwC p s m meth c b N xs D tc z0) (hk : 4 * k + 4 ≤ N) (hN8 : N ≤ 2048) (hJ : zJ κ g z0 px pm rq co sp aC aT t) (h0 : (∀ j, g aC j = .null) ∧ ∀ j, g aT j = .null) (hko : κ po = 29) (hkd : κ pd = 30) (hI : zI D tc (zA [] [] s.heap.size) s.heap [] L κ g H locs) (hl : lv_has ls 9 [(0, .ref b), (1, .ref px), (2, .ref pm), (3, .ref po), (4, .ref pd), (5, .int (nI (4 * k)))]) (hN : lwN p l e s m below meth c b D tc z0 px pm po pd rq co sp aC aT k Q) : W p l e room_1 s m #[Value.ref b] below meth c H locs (60 + 20 * k + 37 * t) (400 + 120 * k + 162 * t) Q (F0 m 592 ls []) := by
  obtain ⟨hx, hb, hml, hown, hts, hK, hE, hX, hbl⟩ := C
  have hbA : ¬ zA [] [] s.heap.size b := fun q => by rcases q with q | q | q; exact absurd q List.not_mem_nil; exact absurd q List.not_mem_nil; exact absurd hbl (Nat.not_lt.mpr q)
  have htb9 : t ≤ 9999 := hJ.1.2.2.1.2
  refine lv_aload_n hx hb dL_law_592 rfl (lv_at hl 1 rfl) ?_
  refine lv_aload_n hx hb dL_law_593 rfl (lv_at hl 0 rfl) ?_
  refine lv_iload hx hb dL_law_594 (lv_at hl 5 rfl) ?_
  refine lv_iconst (v := 1) hx hb dL_law_596 (by decide) ?_
  refine lv_iadd hx hb dL_law_597 ?_
  rw [show nI (4 * k) + 1 = nI (4 * k + 1) from nI_add _ _]
  refine va_sld hx hb hX hbl hbA hI.2.1 (vp_in_nI (show 4 * k + 1 < N from by omega) (by omega)) dL_law_598 ?_
  refine lv_aload_n hx hb dL_law_599 rfl (lv_at hl 3 rfl) ?_
  obtain ⟨⟨⟨hkx, hkm, hkq, hkO, hkS, hkC, hkT⟩, ⟨hR, hO, hS9, hC, hT⟩, ⟨htM, htb⟩, lc, eC, nC, mC, cf, lt, eT, nT, mT, tf, hMo, hCo, hTh⟩, a0, a1, a2, a3, a4, a5, a6, a7⟩ := id hJ
  refine z_xi hI (vx_runSX (As := [.ref px, .int (xs (nI (4 * k + 1)).toNatClampNeg), .ref po]) (rest := []) ⟨hx, hb, hml, hown, hts⟩ (c_L_work l hnt D tc z0 _ κ g _ px hkx (xs (nI (4 * k + 1)).toNatClampNeg) po hko aT hT) (vx_cwSW 3 hts gL_law_L_work rfl rfl rfl (by decide +kernel) ⟨Nat.le_of_ble_eq_true rfl, Nat.le_of_ble_eq_true rfl⟩) (z_pre (Xc := []) hK hE hI [] rfl rfl) rfl rfl hl.1 rfl (lv_room (Nat.le_of_ble_eq_true rfl)) dL_law_600 ⟨(show 60 + 20 * k + 37 * t + 1 ≤ 746514 from by omega), (show 400 + 120 * k + 162 * t + 6 ≤ 6862693 from by omega)⟩) (fun E ce q9 u H locs hw hI he1 he2 he3 => hw.elim) (fun v u H locs hw hI => ?_)
  have hn0 : nT = 0 := hTh.zero h0.2
  have hno : ∀ x, ¬ zHas g aT 8 x := fun x q => by obtain ⟨i9, hi9, -⟩ := (hTh.has hMo.bT (by decide)).mp q; omega
  rcases hw with ⟨rfl, r1, u1, v9, hp, hv9, hu⟩ | ⟨rfl, hp⟩
  · exact absurd hp.1 (hno _)
  · obtain ⟨⟨_, q1⟩, hp⟩ := hp
    cases hp
    refine lv_istore (lv' := [(6, .int 1), (0, .ref b), (1, .ref px), (2, .ref pm), (3, .ref po), (4, .ref pd), (5, .int (nI (4 * k)))]) hx hb dL_law_603 hl (by decide) rfl (fun ls hl => ?_)
    refine lv_aload_n hx hb dL_law_605 rfl (lv_at hl 3 rfl) ?_
    refine lv_aload_n hx hb dL_law_606 rfl (lv_at hl 1 rfl) ?_
    refine lv_iload hx hb dL_law_607 (lv_at hl 6 rfl) ?_
    refine lv_iconst (v := 1) hx hb dL_law_609 (by decide) ?_
    refine lv_iadd hx hb dL_law_610 ?_
    rw [show nI (4 * k) + 1 = nI (4 * k + 1) from nI_add _ _]
    refine va_sld hx hb hX hbl hbA hI.2.1 (vp_in_nI (show 4 * k + 1 < N from by omega) (by omega)) dL_law_611 ?_
    refine z_ci hI (va_runV (As := [.int (xs (nI (4 * k + 1)).toNatClampNeg)]) (rest := []) ⟨hx, hb, hml, hown, hts⟩ (c_X11_work l D tc z0 _ κ g _ pm hkm (xs (nI (4 * k + 1)).toNatClampNeg) lc eC nC mC cf lt eT nT mT tf hMo) (cwV 1 hts gL_law_X11_work rfl rfl rfl (by decide +kernel) ⟨Nat.le_of_ble_eq_true rfl, Nat.le_of_ble_eq_true rfl⟩) (z_preV (Xc := []) hK hE hI [] rfl rfl (z_recv hK hI hkm rfl rfl)) rfl rfl hl.1 rfl (lv_room (Nat.le_of_ble_eq_true rfl)) dL_law_612 ⟨(show 60 + 20 * k + 37 * t + 1 + 0 ≤ 746514 from by omega), (show 400 + 120 * k + 162 * t + 6 + 0 ≤ 6862693 from by omega)⟩) (fun w u H locs hw hI => ?_)
    obtain ⟨v8, hv8, rfl⟩ := hw
    obtain rfl : v8 = 1 := hv8 hn0
    have hJ : zJ κ (zup g pm 12 (.int 1)) z0 px pm rq co sp aC aT t := hJ.upM (by decide)
    have hI : zI D tc (zA [] [] s.heap.size) s.heap [] L κ (zup g pm 12 (.int 1)) H locs := hI
    have hcd : (zup g pm 12 (.int 1)) pm 12 = .int 1 := zup_self _ _ _ _
    generalize (zup g pm 12 (.int 1)) = g3 at hI hJ hcd
    refine lv_istore (lv' := [(7, .int w), (6, .int 1), (0, .ref b), (1, .ref px), (2, .ref pm), (3, .ref po), (4, .ref pd), (5, .int (nI (4 * k)))]) hx hb dL_law_615 hl (by decide) rfl (fun ls hl => ?_)
    refine lv_aload_n hx hb dL_law_617 rfl (lv_at hl 4 rfl) ?_
    refine z_ci hI (va_runV (As := []) (rest := []) ⟨hx, hb, hml, hown, hts⟩ (c_X11_thrown l D tc z0 _ κ g3 _ pm hkm) (cwV 0 hts gL_law_X11_thrown rfl rfl rfl (by decide +kernel) ⟨Nat.le_of_ble_eq_true rfl, Nat.le_of_ble_eq_true rfl⟩) (z_preV (Xc := []) hK hE hI [] rfl rfl (z_recv hK hI hkm rfl rfl)) rfl rfl hl.1 rfl (lv_room (Nat.le_of_ble_eq_true rfl)) dL_law_618 ⟨(show 60 + 20 * k + 37 * t + 1 + 0 + 0 ≤ 746514 from by omega), (show 400 + 120 * k + 162 * t + 6 + 0 + 0 ≤ 6862693 from by omega)⟩) (fun w2 u H locs hw hI => ?_)
    obtain ⟨hw2, rfl⟩ := hw
    have hI : zI D tc (zA [] [] s.heap.size) s.heap [] L κ g3 H locs := hI
    obtain rfl : w2 = 1 := Value.int.inj (hw2.symm.trans hcd)
    refine lv_iload hx hb dL_law_621 (lv_at hl 1 rfl) ?_
    refine lv_icmp_eq (tgt := 628) hx hb dL_law_623 (by decide) (fun _ => ?_) (fun hne => absurd rfl hne)
    refine lv_iload hx hb dL_law_628 (lv_at hl 1 rfl) ?_
    refine lv_if_ne (tgt := 645) hx hb dL_law_630 (by decide) (fun _ => ?_) (fun h9 => absurd h9 (by decide))
    refine lv_goto (tgt := 2252) hx hb dL_law_645 (by decide) ?_
    have hl := lv_sub hl [2, 3, 4, 5, 6, 7] (l' := [(0, .ref b), (1, .ref px), (2, .ref pm), (3, .ref po), (4, .ref pd), (5, .int (nI (4 * k)))]) rfl
    refine W.widen (k := 60 + 20 * (k + 1) + 37 * t) (n := 400 + 120 * (k + 1) + 162 * t) (by omega) (by omega) ?_
    refine W.base ?_
    exact hN s.drawn L κ g3 _ _ _ _ (Drawn.sameBut.refl _ _) hJ hko hkd hI hl

set_option maxHeartbeats 4000000 in
set_option maxRecDepth 100000 in
theorem k_isCold (l : Launch) (hnt : l.stackTraces = false) {p : Program} {e : Env} {s : State} {m : MethodId} {below : List Frame} {meth : Method} {c : Code} {H : Heap} {locs : List Loc} {Q : State → Prop} {D : va_G} {tc : Nat → ClassId} {z0 b N : Nat} {xs : Nat → Int32} {px pm po pd rq co sp aC aT t k : Nat} {L : List Nat} {κ : Nat → Nat} {g : Nat → Nat → Value} {ls : Array Slot} (C : lwC p s m meth c b N xs D tc z0) (hk : 4 * k + 4 ≤ N) (hN8 : N ≤ 2048) (hJ : zJ κ g z0 px pm rq co sp aC aT t) (h0 : (∀ j, g aC j = .null) ∧ ∀ j, g aT j = .null) (hko : κ po = 29) (hkd : κ pd = 30) (hI : zI D tc (zA [] [] s.heap.size) s.heap [] L κ g H locs) (hl : lv_has ls 9 [(0, .ref b), (1, .ref px), (2, .ref pm), (3, .ref po), (4, .ref pd), (5, .int (nI (4 * k)))]) (hN : lwN p l e s m below meth c b D tc z0 px pm po pd rq co sp aC aT k Q) : W p l e room_1 s m #[Value.ref b] below meth c H locs (60 + 20 * k + 37 * t) (400 + 120 * k + 162 * t) Q (F0 m 648 ls []) := by
  obtain ⟨hx, hb, hml, hown, hts, hK, hE, hX, hbl⟩ := C
  have hbA : ¬ zA [] [] s.heap.size b := fun q => by rcases q with q | q | q; exact absurd q List.not_mem_nil; exact absurd q List.not_mem_nil; exact absurd hbl (Nat.not_lt.mpr q)
  have htb9 : t ≤ 9999 := hJ.1.2.2.1.2
  refine lv_aload_n hx hb dL_law_648 rfl (lv_at hl 1 rfl) ?_
  refine lv_aload_n hx hb dL_law_649 rfl (lv_at hl 0 rfl) ?_
  refine lv_iload hx hb dL_law_650 (lv_at hl 5 rfl) ?_
  refine lv_iconst (v := 1) hx hb dL_law_652 (by decide) ?_
  refine lv_iadd hx hb dL_law_653 ?_
  rw [show nI (4 * k) + 1 = nI (4 * k + 1) from nI_add _ _]
  refine va_sld hx hb hX hbl hbA hI.2.1 (vp_in_nI (show 4 * k + 1 < N from by omega) (by omega)) dL_law_654 ?_
  refine lv_aload_n hx hb dL_law_655 rfl (lv_at hl 3 rfl) ?_
  obtain ⟨⟨⟨hkx, hkm, hkq, hkO, hkS, hkC, hkT⟩, ⟨hR, hO, hS9, hC, hT⟩, ⟨htM, htb⟩, lc, eC, nC, mC, cf, lt, eT, nT, mT, tf, hMo, hCo, hTh⟩, a0, a1, a2, a3, a4, a5, a6, a7⟩ := id hJ
  refine z_xi hI (vx_runSX (As := [.ref px, .int (xs (nI (4 * k + 1)).toNatClampNeg), .ref po]) (rest := []) ⟨hx, hb, hml, hown, hts⟩ (c_L_isCold l hnt D tc z0 _ κ g _ px hkx (xs (nI (4 * k + 1)).toNatClampNeg) po hko aT hT) (vx_cwSW 3 hts gL_law_L_isCold rfl rfl rfl (by decide +kernel) ⟨Nat.le_of_ble_eq_true rfl, Nat.le_of_ble_eq_true rfl⟩) (z_pre (Xc := []) hK hE hI [] rfl rfl) rfl rfl hl.1 rfl (lv_room (Nat.le_of_ble_eq_true rfl)) dL_law_656 ⟨(show 60 + 20 * k + 37 * t + 1 ≤ 746514 from by omega), (show 400 + 120 * k + 162 * t + 6 ≤ 6862693 from by omega)⟩) (fun E ce q9 u H locs hw hI he1 he2 he3 => hw.elim) (fun v u H locs hw hI => ?_)
  have hn0 : nT = 0 := hTh.zero h0.2
  have hno : ∀ x, ¬ zHas g aT 8 x := fun x q => by obtain ⟨i9, hi9, -⟩ := (hTh.has hMo.bT (by decide)).mp q; omega
  rcases hw with ⟨rfl, r1, u1, v9, hp, hv9, hu⟩ | ⟨rfl, hp⟩
  · exact absurd hp.1 (hno _)
  · obtain ⟨⟨_, q1⟩, hp⟩ := hp
    cases hp
    refine lv_istore (lv' := [(6, .int 1), (0, .ref b), (1, .ref px), (2, .ref pm), (3, .ref po), (4, .ref pd), (5, .int (nI (4 * k)))]) hx hb dL_law_659 hl (by decide) rfl (fun ls hl => ?_)
    refine lv_aload_n hx hb dL_law_661 rfl (lv_at hl 3 rfl) ?_
    refine lv_aload_n hx hb dL_law_662 rfl (lv_at hl 1 rfl) ?_
    refine lv_iload hx hb dL_law_663 (lv_at hl 6 rfl) ?_
    refine lv_iconst (v := 1) hx hb dL_law_665 (by decide) ?_
    refine lv_iadd hx hb dL_law_666 ?_
    rw [show nI (4 * k) + 1 = nI (4 * k + 1) from nI_add _ _]
    refine va_sld hx hb hX hbl hbA hI.2.1 (vp_in_nI (show 4 * k + 1 < N from by omega) (by omega)) dL_law_667 ?_
    refine z_ci hI (va_runV (As := [.int (xs (nI (4 * k + 1)).toNatClampNeg)]) (rest := []) ⟨hx, hb, hml, hown, hts⟩ (c_X11_isCold l D tc z0 _ κ g _ pm hkm (xs (nI (4 * k + 1)).toNatClampNeg) lc eC nC mC cf lt eT nT mT tf hMo) (cwV 1 hts gL_law_X11_isCold rfl rfl rfl (by decide +kernel) ⟨Nat.le_of_ble_eq_true rfl, Nat.le_of_ble_eq_true rfl⟩) (z_preV (Xc := []) hK hE hI [] rfl rfl (z_recv hK hI hkm rfl rfl)) rfl rfl hl.1 rfl (lv_room (Nat.le_of_ble_eq_true rfl)) dL_law_668 ⟨(show 60 + 20 * k + 37 * t + 1 + 0 ≤ 746514 from by omega), (show 400 + 120 * k + 162 * t + 6 + 0 ≤ 6862693 from by omega)⟩) (fun w u H locs hw hI => ?_)
    obtain ⟨v8, hv8, rfl⟩ := hw
    obtain rfl : v8 = 1 := hv8 hn0
    have hJ : zJ κ (zup g pm 12 (.int 1)) z0 px pm rq co sp aC aT t := hJ.upM (by decide)
    have hI : zI D tc (zA [] [] s.heap.size) s.heap [] L κ (zup g pm 12 (.int 1)) H locs := hI
    have hcd : (zup g pm 12 (.int 1)) pm 12 = .int 1 := zup_self _ _ _ _
    generalize (zup g pm 12 (.int 1)) = g3 at hI hJ hcd
    refine lv_istore (lv' := [(7, .int w), (6, .int 1), (0, .ref b), (1, .ref px), (2, .ref pm), (3, .ref po), (4, .ref pd), (5, .int (nI (4 * k)))]) hx hb dL_law_671 hl (by decide) rfl (fun ls hl => ?_)
    refine lv_aload_n hx hb dL_law_673 rfl (lv_at hl 4 rfl) ?_
    refine z_ci hI (va_runV (As := []) (rest := []) ⟨hx, hb, hml, hown, hts⟩ (c_X11_thrown l D tc z0 _ κ g3 _ pm hkm) (cwV 0 hts gL_law_X11_thrown rfl rfl rfl (by decide +kernel) ⟨Nat.le_of_ble_eq_true rfl, Nat.le_of_ble_eq_true rfl⟩) (z_preV (Xc := []) hK hE hI [] rfl rfl (z_recv hK hI hkm rfl rfl)) rfl rfl hl.1 rfl (lv_room (Nat.le_of_ble_eq_true rfl)) dL_law_674 ⟨(show 60 + 20 * k + 37 * t + 1 + 0 + 0 ≤ 746514 from by omega), (show 400 + 120 * k + 162 * t + 6 + 0 + 0 ≤ 6862693 from by omega)⟩) (fun w2 u H locs hw hI => ?_)
    obtain ⟨hw2, rfl⟩ := hw
    have hI : zI D tc (zA [] [] s.heap.size) s.heap [] L κ g3 H locs := hI
    obtain rfl : w2 = 1 := Value.int.inj (hw2.symm.trans hcd)
    refine lv_iload hx hb dL_law_677 (lv_at hl 1 rfl) ?_
    refine lv_icmp_eq (tgt := 684) hx hb dL_law_679 (by decide) (fun _ => ?_) (fun hne => absurd rfl hne)
    refine lv_iload hx hb dL_law_684 (lv_at hl 1 rfl) ?_
    refine lv_if_ne (tgt := 708) hx hb dL_law_686 (by decide) (fun _ => ?_) (fun h9 => absurd h9 (by decide))
    refine lv_goto (tgt := 2252) hx hb dL_law_708 (by decide) ?_
    have hl := lv_sub hl [2, 3, 4, 5, 6, 7] (l' := [(0, .ref b), (1, .ref px), (2, .ref pm), (3, .ref po), (4, .ref pd), (5, .int (nI (4 * k)))]) rfl
    refine W.widen (k := 60 + 20 * (k + 1) + 37 * t) (n := 400 + 120 * (k + 1) + 162 * t) (by omega) (by omega) ?_
    refine W.base ?_
    exact hN s.drawn L κ g3 _ _ _ _ (Drawn.sameBut.refl _ _) hJ hko hkd hI hl

set_option maxHeartbeats 4000000 in
set_option maxRecDepth 100000 in
theorem k_pass (l : Launch) (hnt : l.stackTraces = false) {p : Program} {e : Env} {s : State} {m : MethodId} {below : List Frame} {meth : Method} {c : Code} {H : Heap} {locs : List Loc} {Q : State → Prop} {D : va_G} {tc : Nat → ClassId} {z0 b N : Nat} {xs : Nat → Int32} {px pm po pd rq co sp aC aT t k : Nat} {L : List Nat} {κ : Nat → Nat} {g : Nat → Nat → Value} {ls : Array Slot} (C : lwC p s m meth c b N xs D tc z0) (hk : 4 * k + 4 ≤ N) (hN8 : N ≤ 2048) (hJ : zJ κ g z0 px pm rq co sp aC aT t) (h0 : (∀ j, g aC j = .null) ∧ ∀ j, g aT j = .null) (hko : κ po = 29) (hkd : κ pd = 30) (hI : zI D tc (zA [] [] s.heap.size) s.heap [] L κ g H locs) (hl : lv_has ls 9 [(0, .ref b), (1, .ref px), (2, .ref pm), (3, .ref po), (4, .ref pd), (5, .int (nI (4 * k)))]) (hN : lwN p l e s m below meth c b D tc z0 px pm po pd rq co sp aC aT k Q) : W p l e room_1 s m #[Value.ref b] below meth c H locs (60 + 20 * k + 37 * t) (400 + 120 * k + 162 * t) Q (F0 m 711 ls []) := by
  obtain ⟨hx, hb, hml, hown, hts, hK, hE, hX, hbl⟩ := C
  have hbA : ¬ zA [] [] s.heap.size b := fun q => by rcases q with q | q | q; exact absurd q List.not_mem_nil; exact absurd q List.not_mem_nil; exact absurd hbl (Nat.not_lt.mpr q)
  have htb9 : t ≤ 9999 := hJ.1.2.2.1.2
  refine lv_aload_n hx hb dL_law_711 rfl (lv_at hl 1 rfl) ?_
  refine lv_aload_n hx hb dL_law_712 rfl (lv_at hl 0 rfl) ?_
  refine lv_iload hx hb dL_law_713 (lv_at hl 5 rfl) ?_
  refine lv_iconst (v := 1) hx hb dL_law_715 (by decide) ?_
  refine lv_iadd hx hb dL_law_716 ?_
  rw [show nI (4 * k) + 1 = nI (4 * k + 1) from nI_add _ _]
  refine va_sld hx hb hX hbl hbA hI.2.1 (vp_in_nI (show 4 * k + 1 < N from by omega) (by omega)) dL_law_717 ?_
  refine lv_aload_n hx hb dL_law_718 rfl (lv_at hl 3 rfl) ?_
  obtain ⟨⟨⟨hkx, hkm, hkq, hkO, hkS, hkC, hkT⟩, ⟨hR, hO, hS9, hC, hT⟩, ⟨htM, htb⟩, lc, eC, nC, mC, cf, lt, eT, nT, mT, tf, hMo, hCo, hTh⟩, a0, a1, a2, a3, a4, a5, a6, a7⟩ := id hJ
  obtain ⟨t9, ht9⟩ := z_gi (j := 8) hI hkx rfl rfl
  obtain ⟨h9, hh9⟩ := z_gi (j := 2) hI hkq rfl rfl
  obtain ⟨w9, hw9⟩ := z_gi (j := 4) hI hkq rfl rfl
  have hne : rq ≠ px := fun q => absurd (hkq.symm.trans (q ▸ hkx)) (by decide)
  refine z_xi hI (vx_runSX (As := [.ref px, .int (xs (nI (4 * k + 1)).toNatClampNeg), .ref po]) (rest := []) ⟨hx, hb, hml, hown, hts⟩ (c_L_pass l hnt D tc z0 _ κ g _ px hkx (xs (nI (4 * k + 1)).toNatClampNeg) po hko t9 ht9 rq hR w9 hw9 h9 hh9 hne) (vx_cwSW 3 hts gL_law_L_pass rfl rfl rfl (by decide +kernel) ⟨Nat.le_of_ble_eq_true rfl, Nat.le_of_ble_eq_true rfl⟩) (z_pre (Xc := []) hK hE hI [] rfl rfl) rfl rfl hl.1 rfl (lv_room (Nat.le_of_ble_eq_true rfl)) dL_law_719 ⟨(show 60 + 20 * k + 37 * t + 1 ≤ 746514 from by omega), (show 400 + 120 * k + 162 * t + 6 ≤ 6862693 from by omega)⟩) (fun E ce q9 u H locs hw hI he1 he2 he3 => hw.elim) (fun v u H locs hw hI => ?_)
  have et : t9 = nI t := Value.int.inj (ht9.symm.trans (a5.trans htM))
  subst et
  rcases hw with ⟨rfl, r1, u1, v9, hp, hv9, hu⟩ | ⟨rfl, hp⟩ | ⟨rfl, hp⟩
  · obtain ⟨q1, q2, q4, g8, hp, hk8⟩ := hp
    cases hp
    cases hu
    obtain ⟨i1, hi1, he1⟩ := nI_of (x := (xs (nI (4 * k + 1)).toNatClampNeg)) (fun q => absurd (Int32.lt_of_le_of_lt q1.1 q) (by decide))
    rw [he1] at q1 q2 q4 hk8
    have h1i : 1 ≤ i1 := (nI_leI (a := 1) (by decide) hi1).mp q1.1
    have h2i : i1 ≤ 100 := (nI_leI (b := 100) hi1 (by decide)).mp q1.2
    have h3i : t + i1 ≤ 9999 := by
      rw [nI_add] at q2
      have h4 : ¬ 9999 < t + i1 := fun q => q2 (nI_lt (a := 9999) q (by omega))
      omega
    have n_px_pm : px ≠ pm := z_apart hkx hkm (by decide)
    have n_px_rq : px ≠ rq := z_apart hkx hkq (by decide)
    have n_px_co : px ≠ co := z_apart hkx hkO (by decide)
    have n_px_sp : px ≠ sp := z_apart hkx hkS (by decide)
    have n_px_po : px ≠ po := z_apart hkx hko (by decide)
    have n_pm_px : pm ≠ px := z_apart hkm hkx (by decide)
    have n_pm_rq : pm ≠ rq := z_apart hkm hkq (by decide)
    have n_pm_co : pm ≠ co := z_apart hkm hkO (by decide)
    have n_pm_sp : pm ≠ sp := z_apart hkm hkS (by decide)
    have n_pm_po : pm ≠ po := z_apart hkm hko (by decide)
    have n_rq_px : rq ≠ px := z_apart hkq hkx (by decide)
    have n_rq_pm : rq ≠ pm := z_apart hkq hkm (by decide)
    have n_rq_co : rq ≠ co := z_apart hkq hkO (by decide)
    have n_rq_sp : rq ≠ sp := z_apart hkq hkS (by decide)
    have n_rq_po : rq ≠ po := z_apart hkq hko (by decide)
    have n_co_px : co ≠ px := z_apart hkO hkx (by decide)
    have n_co_pm : co ≠ pm := z_apart hkO hkm (by decide)
    have n_co_rq : co ≠ rq := z_apart hkO hkq (by decide)
    have n_co_sp : co ≠ sp := z_apart hkO hkS (by decide)
    have n_co_po : co ≠ po := z_apart hkO hko (by decide)
    have n_sp_px : sp ≠ px := z_apart hkS hkx (by decide)
    have n_sp_pm : sp ≠ pm := z_apart hkS hkm (by decide)
    have n_sp_rq : sp ≠ rq := z_apart hkS hkq (by decide)
    have n_sp_co : sp ≠ co := z_apart hkS hkO (by decide)
    have n_sp_po : sp ≠ po := z_apart hkS hko (by decide)
    have n_po_px : po ≠ px := z_apart hko hkx (by decide)
    have n_po_pm : po ≠ pm := z_apart hko hkm (by decide)
    have n_po_rq : po ≠ rq := z_apart hko hkq (by decide)
    have n_po_co : po ≠ co := z_apart hko hkO (by decide)
    have n_po_sp : po ≠ sp := z_apart hko hkS (by decide)
    have hz : zLc κ (zup g8 po 0 (.long v9)) z0 px pm rq co sp aC aT t := (hJ.1.tkC hk8).up hko (by decide)
    have hI : zI D tc (zA [] [] s.heap.size) s.heap [] L κ (zup g8 po 0 (.long v9)) H locs := hI
    obtain ⟨g1, hg1⟩ : ∃ x, x = (zup g8 po 0 (.long v9)) := ⟨_, rfl⟩
    rw [← hg1] at hI hz
    have hgm : ∀ j, g1 pm j = g pm j := fun j => by rw [hg1, zup_a n_pm_po]; exact hk8.2.2.2 _ j (fun q => n_pm_px q.1) (fun q => n_pm_rq q.1)
    refine lv_istore (lv' := [(6, .int 0), (0, .ref b), (1, .ref px), (2, .ref pm), (3, .ref po), (4, .ref pd), (5, .int (nI (4 * k)))]) hx hb dL_law_722 hl (by decide) rfl (fun ls hl => ?_)
    refine lv_aload_n hx hb dL_law_724 rfl (lv_at hl 3 rfl) ?_
    refine lv_aload_n hx hb dL_law_725 rfl (lv_at hl 1 rfl) ?_
    refine lv_iload hx hb dL_law_726 (lv_at hl 6 rfl) ?_
    refine lv_iconst (v := 1) hx hb dL_law_728 (by decide) ?_
    refine lv_iadd hx hb dL_law_729 ?_
    rw [show nI (4 * k) + 1 = nI (4 * k + 1) from nI_add _ _]
    refine va_sld hx hb hX hbl hbA hI.2.1 (vp_in_nI (show 4 * k + 1 < N from by omega) (by omega)) dL_law_730 ?_
    obtain ⟨⟨hkx, hkm, hkq, hkO, hkS, hkC, hkT⟩, ⟨hR, hO, hS9, hC, hT⟩, ⟨htM, htb⟩, lc, eC, nC, mC, cf, lt, eT, nT, mT, tf, hMo, hCo, hTh⟩ := id hz
    rw [he1]
    refine z_ci hI (va_runV (As := [.int (nI i1)]) (rest := []) ⟨hx, hb, hml, hown, hts⟩ (c_X11_pass l D tc z0 _ κ g1 _ pm hkm i1 lc eC nC mC cf lt eT nT mT tf hMo h1i h2i (nI t) htM w9 ((hgm 16).trans (a3.symm.trans hw9)) h9 ((hgm 14).trans (a2.symm.trans hh9)) (by rw [nI_add]; exact nI_le (b := 9999) h3i (by decide))) (cwV 1 hts gL_law_X11_pass rfl rfl rfl (by decide +kernel) ⟨Nat.le_of_ble_eq_true rfl, Nat.le_of_ble_eq_true rfl⟩) (z_preV (Xc := []) hK hE hI [] rfl rfl (z_recv hK hI hkm rfl rfl)) rfl rfl hl.1 rfl (lv_room (Nat.le_of_ble_eq_true rfl)) dL_law_731 ⟨(show 60 + 20 * k + 37 * t + 1 + 37 * i1 ≤ 746514 from by omega), (show 400 + 120 * k + 162 * t + 6 + 162 * i1 ≤ 6862693 from by omega)⟩) (fun w u H locs hw hI => ?_)
    obtain ⟨hr2, g2, rfl, hk9⟩ := hw
    rw [hg1] at hk9
    have hJ : zJ κ g2 z0 px pm rq co sp aC aT (t + i1) := zJ.pass hJ hko hk8 hk9 h3i
    have hI : zI D tc (zA [] [] s.heap.size) s.heap [] L κ g2 H locs := hI
    have hrw : r1 = w := q4.trans hr2.symm
    have hcd : g2 pm 12 = .int 0 := (hk9.2.2.2 _ 12 (fun q => absurd q.2 (by decide)) (fun q => by rcases q.2 with e9 | e9 <;> exact absurd e9 (by decide))).trans (zup_self _ _ _ _)
    have hpo : g2 po 0 = .long v9 := (hk9.2.2.2 po 0 (fun q => absurd q.1 (Ne.symm n_pm_po)) (fun q => absurd q.1 (Ne.symm n_pm_po))).trans (by simp [zup, n_px_pm, n_px_rq, n_px_co, n_px_sp, n_px_po, n_pm_px, n_pm_rq, n_pm_co, n_pm_sp, n_pm_po, n_rq_px, n_rq_pm, n_rq_co, n_rq_sp, n_rq_po, n_co_px, n_co_pm, n_co_rq, n_co_sp, n_co_po, n_sp_px, n_sp_pm, n_sp_rq, n_sp_co, n_sp_po, n_po_px, n_po_pm, n_po_rq, n_po_co, n_po_sp])
    refine lv_istore (lv' := [(7, .int w), (6, .int 0), (0, .ref b), (1, .ref px), (2, .ref pm), (3, .ref po), (4, .ref pd), (5, .int (nI (4 * k)))]) hx hb dL_law_734 hl (by decide) rfl (fun ls hl => ?_)
    refine lv_aload_n hx hb dL_law_736 rfl (lv_at hl 4 rfl) ?_
    refine z_ci hI (va_runV (As := []) (rest := []) ⟨hx, hb, hml, hown, hts⟩ (c_X11_thrown l D tc z0 _ κ g2 _ pm hkm) (cwV 0 hts gL_law_X11_thrown rfl rfl rfl (by decide +kernel) ⟨Nat.le_of_ble_eq_true rfl, Nat.le_of_ble_eq_true rfl⟩) (z_preV (Xc := []) hK hE hI [] rfl rfl (z_recv hK hI hkm rfl rfl)) rfl rfl hl.1 rfl (lv_room (Nat.le_of_ble_eq_true rfl)) dL_law_737 ⟨(show 60 + 20 * k + 37 * t + 1 + 37 * i1 + 0 ≤ 746514 from by omega), (show 400 + 120 * k + 162 * t + 6 + 162 * i1 + 0 ≤ 6862693 from by omega)⟩) (fun w2 u H locs hw hI => ?_)
    obtain ⟨hw2, rfl⟩ := hw
    have hI : zI D tc (zA [] [] s.heap.size) s.heap [] L κ g2 H locs := hI
    obtain rfl : w2 = 0 := Value.int.inj (hw2.symm.trans hcd)
    refine lv_iload hx hb dL_law_740 (lv_at hl 1 rfl) ?_
    refine lv_icmp_eq (tgt := 747) hx hb dL_law_742 (by decide) (fun _ => ?_) (fun hne => absurd rfl hne)
    refine lv_iload hx hb dL_law_747 (lv_at hl 1 rfl) ?_
    refine lv_if_ne (tgt := 764) hx hb dL_law_749 (by decide) (fun h9 => absurd rfl h9) (fun _ => ?_)
    refine lv_aload_n hx hb dL_law_752 rfl (lv_at hl 5 rfl) ?_
    refine lv_iconst (v := 0) hx hb dL_law_753 (by decide) ?_
    have hM : zM p s m c cL_law #[Value.ref b] wsL_law RL D tc := ⟨hx, hb, hts, hown, hK⟩
    refine z_lald hM hI hko rfl rfl (vp_in_c 0 1 (by decide)) dL_law_754 (fun x9 hx9 => ?_)
    obtain ⟨hx9, -⟩ := hx9
    rw [show x9 = v9 from Value.long.inj (hx9.trans hpo)]
    refine lv_iload hx hb dL_law_755 (lv_at hl 0 rfl) ?_
    refine lv_i2l hx hb dL_law_757 rfl ?_
    refine W.lcmp hx hb dL_law_758 ?_
    rw [show lg_cmp v9 _ = 0 from by rw [hv9, hrw]; simp [lg_cmp]]
    refine lv_if_eq (tgt := 764) hx hb dL_law_759 (by decide) (fun _ => ?_) (fun h9 => absurd rfl h9)
    refine lv_goto (tgt := 2252) hx hb dL_law_764 (by decide) ?_
    have hl := lv_sub hl [2, 3, 4, 5, 6, 7] (l' := [(0, .ref b), (1, .ref px), (2, .ref pm), (3, .ref po), (4, .ref pd), (5, .int (nI (4 * k)))]) rfl
    refine W.widen (k := 60 + 20 * (k + 1) + 37 * (t + i1)) (n := 400 + 120 * (k + 1) + 162 * (t + i1)) (by omega) (by omega) ?_
    refine W.base ?_
    exact hN s.drawn L κ g2 _ _ _ _ (Drawn.sameBut.refl _ _) hJ hko hkd hI hl
  · rcases hp with ⟨⟨_, q1⟩ | ⟨q0, _⟩, hp⟩
    · cases hp
      have n_px_pm : px ≠ pm := z_apart hkx hkm (by decide)
      have n_px_rq : px ≠ rq := z_apart hkx hkq (by decide)
      have n_px_co : px ≠ co := z_apart hkx hkO (by decide)
      have n_px_sp : px ≠ sp := z_apart hkx hkS (by decide)
      have n_px_po : px ≠ po := z_apart hkx hko (by decide)
      have n_pm_px : pm ≠ px := z_apart hkm hkx (by decide)
      have n_pm_rq : pm ≠ rq := z_apart hkm hkq (by decide)
      have n_pm_co : pm ≠ co := z_apart hkm hkO (by decide)
      have n_pm_sp : pm ≠ sp := z_apart hkm hkS (by decide)
      have n_pm_po : pm ≠ po := z_apart hkm hko (by decide)
      have n_rq_px : rq ≠ px := z_apart hkq hkx (by decide)
      have n_rq_pm : rq ≠ pm := z_apart hkq hkm (by decide)
      have n_rq_co : rq ≠ co := z_apart hkq hkO (by decide)
      have n_rq_sp : rq ≠ sp := z_apart hkq hkS (by decide)
      have n_rq_po : rq ≠ po := z_apart hkq hko (by decide)
      have n_co_px : co ≠ px := z_apart hkO hkx (by decide)
      have n_co_pm : co ≠ pm := z_apart hkO hkm (by decide)
      have n_co_rq : co ≠ rq := z_apart hkO hkq (by decide)
      have n_co_sp : co ≠ sp := z_apart hkO hkS (by decide)
      have n_co_po : co ≠ po := z_apart hkO hko (by decide)
      have n_sp_px : sp ≠ px := z_apart hkS hkx (by decide)
      have n_sp_pm : sp ≠ pm := z_apart hkS hkm (by decide)
      have n_sp_rq : sp ≠ rq := z_apart hkS hkq (by decide)
      have n_sp_co : sp ≠ co := z_apart hkS hkO (by decide)
      have n_sp_po : sp ≠ po := z_apart hkS hko (by decide)
      have n_po_px : po ≠ px := z_apart hko hkx (by decide)
      have n_po_pm : po ≠ pm := z_apart hko hkm (by decide)
      have n_po_rq : po ≠ rq := z_apart hko hkq (by decide)
      have n_po_co : po ≠ co := z_apart hko hkO (by decide)
      have n_po_sp : po ≠ sp := z_apart hko hkS (by decide)
      have hz : zLc κ g z0 px pm rq co sp aC aT t := hJ.1
      have hI : zI D tc (zA [] [] s.heap.size) s.heap [] L κ g H locs := hI
      obtain ⟨g1, hg1⟩ : ∃ x, x = g := ⟨_, rfl⟩
      rw [← hg1] at hI hz
      have hgm : ∀ j, g1 pm j = g pm j := fun j => by subst hg1; simp [zup, n_px_pm, n_px_rq, n_px_co, n_px_sp, n_px_po, n_pm_px, n_pm_rq, n_pm_co, n_pm_sp, n_pm_po, n_rq_px, n_rq_pm, n_rq_co, n_rq_sp, n_rq_po, n_co_px, n_co_pm, n_co_rq, n_co_sp, n_co_po, n_sp_px, n_sp_pm, n_sp_rq, n_sp_co, n_sp_po, n_po_px, n_po_pm, n_po_rq, n_po_co, n_po_sp]
      have hbad : (1 ≤ (xs (nI (4 * k + 1)).toNatClampNeg) ∧ (xs (nI (4 * k + 1)).toNatClampNeg) ≤ 100) → 9999 < nI t + (xs (nI (4 * k + 1)).toNatClampNeg) := (fun q => absurd q q1)
      refine lv_istore (lv' := [(6, .int 1), (0, .ref b), (1, .ref px), (2, .ref pm), (3, .ref po), (4, .ref pd), (5, .int (nI (4 * k)))]) hx hb dL_law_722 hl (by decide) rfl (fun ls hl => ?_)
      refine lv_aload_n hx hb dL_law_724 rfl (lv_at hl 3 rfl) ?_
      refine lv_aload_n hx hb dL_law_725 rfl (lv_at hl 1 rfl) ?_
      refine lv_iload hx hb dL_law_726 (lv_at hl 6 rfl) ?_
      refine lv_iconst (v := 1) hx hb dL_law_728 (by decide) ?_
      refine lv_iadd hx hb dL_law_729 ?_
      rw [show nI (4 * k) + 1 = nI (4 * k + 1) from nI_add _ _]
      refine va_sld hx hb hX hbl hbA hI.2.1 (vp_in_nI (show 4 * k + 1 < N from by omega) (by omega)) dL_law_730 ?_
      obtain ⟨⟨hkx, hkm, hkq, hkO, hkS, hkC, hkT⟩, ⟨hR, hO, hS9, hC, hT⟩, ⟨htM, htb⟩, lc, eC, nC, mC, cf, lt, eT, nT, mT, tf, hMo, hCo, hTh⟩ := id hz
      refine z_ci hI (va_runV (As := [.int (xs (nI (4 * k + 1)).toNatClampNeg)]) (rest := []) ⟨hx, hb, hml, hown, hts⟩ (c_X11_pass_bad l D tc z0 _ κ g1 _ pm hkm (xs (nI (4 * k + 1)).toNatClampNeg)  (nI t) htM hbad) (cwV 1 hts gL_law_X11_pass rfl rfl rfl (by decide +kernel) ⟨Nat.le_of_ble_eq_true rfl, Nat.le_of_ble_eq_true rfl⟩) (z_preV (Xc := []) hK hE hI [] rfl rfl (z_recv hK hI hkm rfl rfl)) rfl rfl hl.1 rfl (lv_room (Nat.le_of_ble_eq_true rfl)) dL_law_731 ⟨(show 60 + 20 * k + 37 * t + 1 + 0 ≤ 746514 from by omega), (show 400 + 120 * k + 162 * t + 6 + 0 ≤ 6862693 from by omega)⟩) (fun w u H locs hw hI => ?_)
      obtain ⟨hr2, ⟨w1, rfl⟩ | ⟨w1, rfl⟩⟩ := hw
      · skip
        have hcd : (zup g1 pm 12 (.int 1)) pm 12 = .int 1 := by simp [zup, n_px_pm, n_px_rq, n_px_co, n_px_sp, n_px_po, n_pm_px, n_pm_rq, n_pm_co, n_pm_sp, n_pm_po, n_rq_px, n_rq_pm, n_rq_co, n_rq_sp, n_rq_po, n_co_px, n_co_pm, n_co_rq, n_co_sp, n_co_po, n_sp_px, n_sp_pm, n_sp_rq, n_sp_co, n_sp_po, n_po_px, n_po_pm, n_po_rq, n_po_co, n_po_sp]
        have hJ : zJ κ (zup g1 pm 12 (.int 1)) z0 px pm rq co sp aC aT t := ⟨hz.upM (by decide), (by unfold zAg; subst hg1; simp [zup, n_px_pm, n_px_rq, n_px_co, n_px_sp, n_px_po, n_pm_px, n_pm_rq, n_pm_co, n_pm_sp, n_pm_po, n_rq_px, n_rq_pm, n_rq_co, n_rq_sp, n_rq_po, n_co_px, n_co_pm, n_co_rq, n_co_sp, n_co_po, n_sp_px, n_sp_pm, n_sp_rq, n_sp_co, n_sp_po, n_po_px, n_po_pm, n_po_rq, n_po_co, n_po_sp, a0, a1, a2, a3, a4, a5, a6, a7])⟩
        have hI : zI D tc (zA [] [] s.heap.size) s.heap [] L κ (zup g1 pm 12 (.int 1)) H locs := hI
        generalize (zup g1 pm 12 (.int 1)) = g3 at hI hJ hcd
        refine lv_istore (lv' := [(7, .int w), (6, .int 1), (0, .ref b), (1, .ref px), (2, .ref pm), (3, .ref po), (4, .ref pd), (5, .int (nI (4 * k)))]) hx hb dL_law_734 hl (by decide) rfl (fun ls hl => ?_)
        refine lv_aload_n hx hb dL_law_736 rfl (lv_at hl 4 rfl) ?_
        refine z_ci hI (va_runV (As := []) (rest := []) ⟨hx, hb, hml, hown, hts⟩ (c_X11_thrown l D tc z0 _ κ g3 _ pm hkm) (cwV 0 hts gL_law_X11_thrown rfl rfl rfl (by decide +kernel) ⟨Nat.le_of_ble_eq_true rfl, Nat.le_of_ble_eq_true rfl⟩) (z_preV (Xc := []) hK hE hI [] rfl rfl (z_recv hK hI hkm rfl rfl)) rfl rfl hl.1 rfl (lv_room (Nat.le_of_ble_eq_true rfl)) dL_law_737 ⟨(show 60 + 20 * k + 37 * t + 1 + 0 + 0 ≤ 746514 from by omega), (show 400 + 120 * k + 162 * t + 6 + 0 + 0 ≤ 6862693 from by omega)⟩) (fun w2 u H locs hw hI => ?_)
        obtain ⟨hw2, rfl⟩ := hw
        have hI : zI D tc (zA [] [] s.heap.size) s.heap [] L κ g3 H locs := hI
        obtain rfl : w2 = 1 := Value.int.inj (hw2.symm.trans hcd)
        refine lv_iload hx hb dL_law_740 (lv_at hl 1 rfl) ?_
        refine lv_icmp_eq (tgt := 747) hx hb dL_law_742 (by decide) (fun _ => ?_) (fun hne => absurd rfl hne)
        refine lv_iload hx hb dL_law_747 (lv_at hl 1 rfl) ?_
        refine lv_if_ne (tgt := 764) hx hb dL_law_749 (by decide) (fun _ => ?_) (fun h9 => absurd h9 (by decide))
        refine lv_goto (tgt := 2252) hx hb dL_law_764 (by decide) ?_
        have hl := lv_sub hl [2, 3, 4, 5, 6, 7] (l' := [(0, .ref b), (1, .ref px), (2, .ref pm), (3, .ref po), (4, .ref pd), (5, .int (nI (4 * k)))]) rfl
        refine W.widen (k := 60 + 20 * (k + 1) + 37 * t) (n := 400 + 120 * (k + 1) + 162 * t) (by omega) (by omega) ?_
        refine W.base ?_
        exact hN s.drawn L κ g3 _ _ _ _ (Drawn.sameBut.refl _ _) hJ hko hkd hI hl
      · skip
        exact absurd w1 q1
    · exact absurd q0 (by decide)
  · rcases hp with ⟨⟨q0, _⟩ | ⟨_, q1, q2⟩, hp⟩
    · exact absurd q0 (by decide)
    · cases hp
      have n_px_pm : px ≠ pm := z_apart hkx hkm (by decide)
      have n_px_rq : px ≠ rq := z_apart hkx hkq (by decide)
      have n_px_co : px ≠ co := z_apart hkx hkO (by decide)
      have n_px_sp : px ≠ sp := z_apart hkx hkS (by decide)
      have n_px_po : px ≠ po := z_apart hkx hko (by decide)
      have n_pm_px : pm ≠ px := z_apart hkm hkx (by decide)
      have n_pm_rq : pm ≠ rq := z_apart hkm hkq (by decide)
      have n_pm_co : pm ≠ co := z_apart hkm hkO (by decide)
      have n_pm_sp : pm ≠ sp := z_apart hkm hkS (by decide)
      have n_pm_po : pm ≠ po := z_apart hkm hko (by decide)
      have n_rq_px : rq ≠ px := z_apart hkq hkx (by decide)
      have n_rq_pm : rq ≠ pm := z_apart hkq hkm (by decide)
      have n_rq_co : rq ≠ co := z_apart hkq hkO (by decide)
      have n_rq_sp : rq ≠ sp := z_apart hkq hkS (by decide)
      have n_rq_po : rq ≠ po := z_apart hkq hko (by decide)
      have n_co_px : co ≠ px := z_apart hkO hkx (by decide)
      have n_co_pm : co ≠ pm := z_apart hkO hkm (by decide)
      have n_co_rq : co ≠ rq := z_apart hkO hkq (by decide)
      have n_co_sp : co ≠ sp := z_apart hkO hkS (by decide)
      have n_co_po : co ≠ po := z_apart hkO hko (by decide)
      have n_sp_px : sp ≠ px := z_apart hkS hkx (by decide)
      have n_sp_pm : sp ≠ pm := z_apart hkS hkm (by decide)
      have n_sp_rq : sp ≠ rq := z_apart hkS hkq (by decide)
      have n_sp_co : sp ≠ co := z_apart hkS hkO (by decide)
      have n_sp_po : sp ≠ po := z_apart hkS hko (by decide)
      have n_po_px : po ≠ px := z_apart hko hkx (by decide)
      have n_po_pm : po ≠ pm := z_apart hko hkm (by decide)
      have n_po_rq : po ≠ rq := z_apart hko hkq (by decide)
      have n_po_co : po ≠ co := z_apart hko hkO (by decide)
      have n_po_sp : po ≠ sp := z_apart hko hkS (by decide)
      have hz : zLc κ g z0 px pm rq co sp aC aT t := hJ.1
      have hI : zI D tc (zA [] [] s.heap.size) s.heap [] L κ g H locs := hI
      obtain ⟨g1, hg1⟩ : ∃ x, x = g := ⟨_, rfl⟩
      rw [← hg1] at hI hz
      have hgm : ∀ j, g1 pm j = g pm j := fun j => by subst hg1; simp [zup, n_px_pm, n_px_rq, n_px_co, n_px_sp, n_px_po, n_pm_px, n_pm_rq, n_pm_co, n_pm_sp, n_pm_po, n_rq_px, n_rq_pm, n_rq_co, n_rq_sp, n_rq_po, n_co_px, n_co_pm, n_co_rq, n_co_sp, n_co_po, n_sp_px, n_sp_pm, n_sp_rq, n_sp_co, n_sp_po, n_po_px, n_po_pm, n_po_rq, n_po_co, n_po_sp]
      have hbad : (1 ≤ (xs (nI (4 * k + 1)).toNatClampNeg) ∧ (xs (nI (4 * k + 1)).toNatClampNeg) ≤ 100) → 9999 < nI t + (xs (nI (4 * k + 1)).toNatClampNeg) := (fun _ => q2)
      refine lv_istore (lv' := [(6, .int 2), (0, .ref b), (1, .ref px), (2, .ref pm), (3, .ref po), (4, .ref pd), (5, .int (nI (4 * k)))]) hx hb dL_law_722 hl (by decide) rfl (fun ls hl => ?_)
      refine lv_aload_n hx hb dL_law_724 rfl (lv_at hl 3 rfl) ?_
      refine lv_aload_n hx hb dL_law_725 rfl (lv_at hl 1 rfl) ?_
      refine lv_iload hx hb dL_law_726 (lv_at hl 6 rfl) ?_
      refine lv_iconst (v := 1) hx hb dL_law_728 (by decide) ?_
      refine lv_iadd hx hb dL_law_729 ?_
      rw [show nI (4 * k) + 1 = nI (4 * k + 1) from nI_add _ _]
      refine va_sld hx hb hX hbl hbA hI.2.1 (vp_in_nI (show 4 * k + 1 < N from by omega) (by omega)) dL_law_730 ?_
      obtain ⟨⟨hkx, hkm, hkq, hkO, hkS, hkC, hkT⟩, ⟨hR, hO, hS9, hC, hT⟩, ⟨htM, htb⟩, lc, eC, nC, mC, cf, lt, eT, nT, mT, tf, hMo, hCo, hTh⟩ := id hz
      refine z_ci hI (va_runV (As := [.int (xs (nI (4 * k + 1)).toNatClampNeg)]) (rest := []) ⟨hx, hb, hml, hown, hts⟩ (c_X11_pass_bad l D tc z0 _ κ g1 _ pm hkm (xs (nI (4 * k + 1)).toNatClampNeg)  (nI t) htM hbad) (cwV 1 hts gL_law_X11_pass rfl rfl rfl (by decide +kernel) ⟨Nat.le_of_ble_eq_true rfl, Nat.le_of_ble_eq_true rfl⟩) (z_preV (Xc := []) hK hE hI [] rfl rfl (z_recv hK hI hkm rfl rfl)) rfl rfl hl.1 rfl (lv_room (Nat.le_of_ble_eq_true rfl)) dL_law_731 ⟨(show 60 + 20 * k + 37 * t + 1 + 0 ≤ 746514 from by omega), (show 400 + 120 * k + 162 * t + 6 + 0 ≤ 6862693 from by omega)⟩) (fun w u H locs hw hI => ?_)
      obtain ⟨hr2, ⟨w1, rfl⟩ | ⟨w1, rfl⟩⟩ := hw
      · skip
        exact absurd q1 w1
      · skip
        have hcd : (zup g1 pm 12 (.int 2)) pm 12 = .int 2 := by simp [zup, n_px_pm, n_px_rq, n_px_co, n_px_sp, n_px_po, n_pm_px, n_pm_rq, n_pm_co, n_pm_sp, n_pm_po, n_rq_px, n_rq_pm, n_rq_co, n_rq_sp, n_rq_po, n_co_px, n_co_pm, n_co_rq, n_co_sp, n_co_po, n_sp_px, n_sp_pm, n_sp_rq, n_sp_co, n_sp_po, n_po_px, n_po_pm, n_po_rq, n_po_co, n_po_sp]
        have hJ : zJ κ (zup g1 pm 12 (.int 2)) z0 px pm rq co sp aC aT t := ⟨hz.upM (by decide), (by unfold zAg; subst hg1; simp [zup, n_px_pm, n_px_rq, n_px_co, n_px_sp, n_px_po, n_pm_px, n_pm_rq, n_pm_co, n_pm_sp, n_pm_po, n_rq_px, n_rq_pm, n_rq_co, n_rq_sp, n_rq_po, n_co_px, n_co_pm, n_co_rq, n_co_sp, n_co_po, n_sp_px, n_sp_pm, n_sp_rq, n_sp_co, n_sp_po, n_po_px, n_po_pm, n_po_rq, n_po_co, n_po_sp, a0, a1, a2, a3, a4, a5, a6, a7])⟩
        have hI : zI D tc (zA [] [] s.heap.size) s.heap [] L κ (zup g1 pm 12 (.int 2)) H locs := hI
        generalize (zup g1 pm 12 (.int 2)) = g3 at hI hJ hcd
        refine lv_istore (lv' := [(7, .int w), (6, .int 2), (0, .ref b), (1, .ref px), (2, .ref pm), (3, .ref po), (4, .ref pd), (5, .int (nI (4 * k)))]) hx hb dL_law_734 hl (by decide) rfl (fun ls hl => ?_)
        refine lv_aload_n hx hb dL_law_736 rfl (lv_at hl 4 rfl) ?_
        refine z_ci hI (va_runV (As := []) (rest := []) ⟨hx, hb, hml, hown, hts⟩ (c_X11_thrown l D tc z0 _ κ g3 _ pm hkm) (cwV 0 hts gL_law_X11_thrown rfl rfl rfl (by decide +kernel) ⟨Nat.le_of_ble_eq_true rfl, Nat.le_of_ble_eq_true rfl⟩) (z_preV (Xc := []) hK hE hI [] rfl rfl (z_recv hK hI hkm rfl rfl)) rfl rfl hl.1 rfl (lv_room (Nat.le_of_ble_eq_true rfl)) dL_law_737 ⟨(show 60 + 20 * k + 37 * t + 1 + 0 + 0 ≤ 746514 from by omega), (show 400 + 120 * k + 162 * t + 6 + 0 + 0 ≤ 6862693 from by omega)⟩) (fun w2 u H locs hw hI => ?_)
        obtain ⟨hw2, rfl⟩ := hw
        have hI : zI D tc (zA [] [] s.heap.size) s.heap [] L κ g3 H locs := hI
        obtain rfl : w2 = 2 := Value.int.inj (hw2.symm.trans hcd)
        refine lv_iload hx hb dL_law_740 (lv_at hl 1 rfl) ?_
        refine lv_icmp_eq (tgt := 747) hx hb dL_law_742 (by decide) (fun _ => ?_) (fun hne => absurd rfl hne)
        refine lv_iload hx hb dL_law_747 (lv_at hl 1 rfl) ?_
        refine lv_if_ne (tgt := 764) hx hb dL_law_749 (by decide) (fun _ => ?_) (fun h9 => absurd h9 (by decide))
        refine lv_goto (tgt := 2252) hx hb dL_law_764 (by decide) ?_
        have hl := lv_sub hl [2, 3, 4, 5, 6, 7] (l' := [(0, .ref b), (1, .ref px), (2, .ref pm), (3, .ref po), (4, .ref pd), (5, .int (nI (4 * k)))]) rfl
        refine W.widen (k := 60 + 20 * (k + 1) + 37 * t) (n := 400 + 120 * (k + 1) + 162 * t) (by omega) (by omega) ?_
        refine W.base ?_
        exact hN s.drawn L κ g3 _ _ _ _ (Drawn.sameBut.refl _ _) hJ hko hkd hI hl

set_option maxHeartbeats 4000000 in
set_option maxRecDepth 100000 in
theorem k_speed (l : Launch) (hnt : l.stackTraces = false) {p : Program} {e : Env} {s : State} {m : MethodId} {below : List Frame} {meth : Method} {c : Code} {H : Heap} {locs : List Loc} {Q : State → Prop} {D : va_G} {tc : Nat → ClassId} {z0 b N : Nat} {xs : Nat → Int32} {px pm po pd rq co sp aC aT t k : Nat} {L : List Nat} {κ : Nat → Nat} {g : Nat → Nat → Value} {ls : Array Slot} (C : lwC p s m meth c b N xs D tc z0) (hk : 4 * k + 4 ≤ N) (hN8 : N ≤ 2048) (hJ : zJ κ g z0 px pm rq co sp aC aT t) (h0 : (∀ j, g aC j = .null) ∧ ∀ j, g aT j = .null) (hko : κ po = 29) (hkd : κ pd = 30) (hI : zI D tc (zA [] [] s.heap.size) s.heap [] L κ g H locs) (hl : lv_has ls 9 [(0, .ref b), (1, .ref px), (2, .ref pm), (3, .ref po), (4, .ref pd), (5, .int (nI (4 * k)))]) (hN : lwN p l e s m below meth c b D tc z0 px pm po pd rq co sp aC aT k Q) : W p l e room_1 s m #[Value.ref b] below meth c H locs (60 + 20 * k + 37 * t) (400 + 120 * k + 162 * t) Q (F0 m 767 ls []) := by
  obtain ⟨hx, hb, hml, hown, hts, hK, hE, hX, hbl⟩ := C
  have hbA : ¬ zA [] [] s.heap.size b := fun q => by rcases q with q | q | q; exact absurd q List.not_mem_nil; exact absurd q List.not_mem_nil; exact absurd hbl (Nat.not_lt.mpr q)
  have htb9 : t ≤ 9999 := hJ.1.2.2.1.2
  refine lv_aload_n hx hb dL_law_767 rfl (lv_at hl 1 rfl) ?_
  refine lv_aload_n hx hb dL_law_768 rfl (lv_at hl 0 rfl) ?_
  refine lv_iload hx hb dL_law_769 (lv_at hl 5 rfl) ?_
  refine lv_iconst (v := 1) hx hb dL_law_771 (by decide) ?_
  refine lv_iadd hx hb dL_law_772 ?_
  rw [show nI (4 * k) + 1 = nI (4 * k + 1) from nI_add _ _]
  refine va_sld hx hb hX hbl hbA hI.2.1 (vp_in_nI (show 4 * k + 1 < N from by omega) (by omega)) dL_law_773 ?_
  refine lv_aload_n hx hb dL_law_774 rfl (lv_at hl 3 rfl) ?_
  obtain ⟨⟨⟨hkx, hkm, hkq, hkO, hkS, hkC, hkT⟩, ⟨hR, hO, hS9, hC, hT⟩, ⟨htM, htb⟩, lc, eC, nC, mC, cf, lt, eT, nT, mT, tf, hMo, hCo, hTh⟩, a0, a1, a2, a3, a4, a5, a6, a7⟩ := id hJ
  refine z_xi hI (vx_runSX (As := [.ref px, .int (xs (nI (4 * k + 1)).toNatClampNeg), .ref po]) (rest := []) ⟨hx, hb, hml, hown, hts⟩ (c_L_speed l hnt D tc z0 _ κ g _ px hkx (xs (nI (4 * k + 1)).toNatClampNeg) po hko aC hC) (vx_cwSW 3 hts gL_law_L_speed rfl rfl rfl (by decide +kernel) ⟨Nat.le_of_ble_eq_true rfl, Nat.le_of_ble_eq_true rfl⟩) (z_pre (Xc := []) hK hE hI [] rfl rfl) rfl rfl hl.1 rfl (lv_room (Nat.le_of_ble_eq_true rfl)) dL_law_775 ⟨(show 60 + 20 * k + 37 * t + 1 ≤ 746514 from by omega), (show 400 + 120 * k + 162 * t + 6 ≤ 6862693 from by omega)⟩) (fun E ce q9 u H locs hw hI he1 he2 he3 => hw.elim) (fun v u H locs hw hI => ?_)
  have hn0 : nC = 0 := hCo.zero h0.1
  have hno : ∀ x, ¬ zHas g aC 6 x := fun x q => by obtain ⟨i9, hi9, -⟩ := (hCo.has hMo.bC (by decide)).mp q; omega
  rcases hw with ⟨rfl, r1, u1, v9, hp, hv9, hu⟩ | ⟨rfl, hp⟩
  · exact absurd hp.1 (hno _)
  · obtain ⟨⟨_, q1⟩, hp⟩ := hp
    cases hp
    refine lv_istore (lv' := [(6, .int 1), (0, .ref b), (1, .ref px), (2, .ref pm), (3, .ref po), (4, .ref pd), (5, .int (nI (4 * k)))]) hx hb dL_law_778 hl (by decide) rfl (fun ls hl => ?_)
    refine lv_aload_n hx hb dL_law_780 rfl (lv_at hl 3 rfl) ?_
    refine lv_aload_n hx hb dL_law_781 rfl (lv_at hl 1 rfl) ?_
    refine lv_iload hx hb dL_law_782 (lv_at hl 6 rfl) ?_
    refine lv_iconst (v := 1) hx hb dL_law_784 (by decide) ?_
    refine lv_iadd hx hb dL_law_785 ?_
    rw [show nI (4 * k) + 1 = nI (4 * k + 1) from nI_add _ _]
    refine va_sld hx hb hX hbl hbA hI.2.1 (vp_in_nI (show 4 * k + 1 < N from by omega) (by omega)) dL_law_786 ?_
    refine z_ci hI (va_runV (As := [.int (xs (nI (4 * k + 1)).toNatClampNeg)]) (rest := []) ⟨hx, hb, hml, hown, hts⟩ (c_X11_speed l D tc z0 _ κ g _ pm hkm (xs (nI (4 * k + 1)).toNatClampNeg) lc eC nC mC cf lt eT nT mT tf hMo) (cwV 1 hts gL_law_X11_speed rfl rfl rfl (by decide +kernel) ⟨Nat.le_of_ble_eq_true rfl, Nat.le_of_ble_eq_true rfl⟩) (z_preV (Xc := []) hK hE hI [] rfl rfl (z_recv hK hI hkm rfl rfl)) rfl rfl hl.1 rfl (lv_room (Nat.le_of_ble_eq_true rfl)) dL_law_787 ⟨(show 60 + 20 * k + 37 * t + 1 + 0 ≤ 746514 from by omega), (show 400 + 120 * k + 162 * t + 6 + 0 ≤ 6862693 from by omega)⟩) (fun w u H locs hw hI => ?_)
    obtain ⟨v8, hv8, rfl⟩ := hw
    obtain rfl : v8 = 1 := hv8 hn0
    have hJ : zJ κ (zup g pm 12 (.int 1)) z0 px pm rq co sp aC aT t := hJ.upM (by decide)
    have hI : zI D tc (zA [] [] s.heap.size) s.heap [] L κ (zup g pm 12 (.int 1)) H locs := hI
    have hcd : (zup g pm 12 (.int 1)) pm 12 = .int 1 := zup_self _ _ _ _
    generalize (zup g pm 12 (.int 1)) = g3 at hI hJ hcd
    refine lv_istore (lv' := [(7, .int w), (6, .int 1), (0, .ref b), (1, .ref px), (2, .ref pm), (3, .ref po), (4, .ref pd), (5, .int (nI (4 * k)))]) hx hb dL_law_790 hl (by decide) rfl (fun ls hl => ?_)
    refine lv_aload_n hx hb dL_law_792 rfl (lv_at hl 4 rfl) ?_
    refine z_ci hI (va_runV (As := []) (rest := []) ⟨hx, hb, hml, hown, hts⟩ (c_X11_thrown l D tc z0 _ κ g3 _ pm hkm) (cwV 0 hts gL_law_X11_thrown rfl rfl rfl (by decide +kernel) ⟨Nat.le_of_ble_eq_true rfl, Nat.le_of_ble_eq_true rfl⟩) (z_preV (Xc := []) hK hE hI [] rfl rfl (z_recv hK hI hkm rfl rfl)) rfl rfl hl.1 rfl (lv_room (Nat.le_of_ble_eq_true rfl)) dL_law_793 ⟨(show 60 + 20 * k + 37 * t + 1 + 0 + 0 ≤ 746514 from by omega), (show 400 + 120 * k + 162 * t + 6 + 0 + 0 ≤ 6862693 from by omega)⟩) (fun w2 u H locs hw hI => ?_)
    obtain ⟨hw2, rfl⟩ := hw
    have hI : zI D tc (zA [] [] s.heap.size) s.heap [] L κ g3 H locs := hI
    obtain rfl : w2 = 1 := Value.int.inj (hw2.symm.trans hcd)
    refine lv_iload hx hb dL_law_796 (lv_at hl 1 rfl) ?_
    refine lv_icmp_eq (tgt := 803) hx hb dL_law_798 (by decide) (fun _ => ?_) (fun hne => absurd rfl hne)
    refine lv_iload hx hb dL_law_803 (lv_at hl 1 rfl) ?_
    refine lv_if_ne (tgt := 820) hx hb dL_law_805 (by decide) (fun _ => ?_) (fun h9 => absurd h9 (by decide))
    refine lv_goto (tgt := 2252) hx hb dL_law_820 (by decide) ?_
    have hl := lv_sub hl [2, 3, 4, 5, 6, 7] (l' := [(0, .ref b), (1, .ref px), (2, .ref pm), (3, .ref po), (4, .ref pd), (5, .int (nI (4 * k)))]) rfl
    refine W.widen (k := 60 + 20 * (k + 1) + 37 * t) (n := 400 + 120 * (k + 1) + 162 * t) (by omega) (by omega) ?_
    refine W.base ?_
    exact hN s.drawn L κ g3 _ _ _ _ (Drawn.sameBut.refl _ _) hJ hko hkd hI hl

set_option maxHeartbeats 4000000 in
set_option maxRecDepth 100000 in
theorem k_wanted (l : Launch) (hnt : l.stackTraces = false) {p : Program} {e : Env} {s : State} {m : MethodId} {below : List Frame} {meth : Method} {c : Code} {H : Heap} {locs : List Loc} {Q : State → Prop} {D : va_G} {tc : Nat → ClassId} {z0 b N : Nat} {xs : Nat → Int32} {px pm po pd rq co sp aC aT t k : Nat} {L : List Nat} {κ : Nat → Nat} {g : Nat → Nat → Value} {ls : Array Slot} (C : lwC p s m meth c b N xs D tc z0) (hk : 4 * k + 4 ≤ N) (hN8 : N ≤ 2048) (hJ : zJ κ g z0 px pm rq co sp aC aT t) (h0 : (∀ j, g aC j = .null) ∧ ∀ j, g aT j = .null) (hko : κ po = 29) (hkd : κ pd = 30) (hI : zI D tc (zA [] [] s.heap.size) s.heap [] L κ g H locs) (hl : lv_has ls 9 [(0, .ref b), (1, .ref px), (2, .ref pm), (3, .ref po), (4, .ref pd), (5, .int (nI (4 * k)))]) (hN : lwN p l e s m below meth c b D tc z0 px pm po pd rq co sp aC aT k Q) : W p l e room_1 s m #[Value.ref b] below meth c H locs (60 + 20 * k + 37 * t) (400 + 120 * k + 162 * t) Q (F0 m 823 ls []) := by
  obtain ⟨hx, hb, hml, hown, hts, hK, hE, hX, hbl⟩ := C
  have hbA : ¬ zA [] [] s.heap.size b := fun q => by rcases q with q | q | q; exact absurd q List.not_mem_nil; exact absurd q List.not_mem_nil; exact absurd hbl (Nat.not_lt.mpr q)
  have htb9 : t ≤ 9999 := hJ.1.2.2.1.2
  refine lv_aload_n hx hb dL_law_823 rfl (lv_at hl 1 rfl) ?_
  refine lv_aload_n hx hb dL_law_824 rfl (lv_at hl 0 rfl) ?_
  refine lv_iload hx hb dL_law_825 (lv_at hl 5 rfl) ?_
  refine lv_iconst (v := 1) hx hb dL_law_827 (by decide) ?_
  refine lv_iadd hx hb dL_law_828 ?_
  rw [show nI (4 * k) + 1 = nI (4 * k + 1) from nI_add _ _]
  refine va_sld hx hb hX hbl hbA hI.2.1 (vp_in_nI (show 4 * k + 1 < N from by omega) (by omega)) dL_law_829 ?_
  refine lv_aload_n hx hb dL_law_830 rfl (lv_at hl 3 rfl) ?_
  obtain ⟨⟨⟨hkx, hkm, hkq, hkO, hkS, hkC, hkT⟩, ⟨hR, hO, hS9, hC, hT⟩, ⟨htM, htb⟩, lc, eC, nC, mC, cf, lt, eT, nT, mT, tf, hMo, hCo, hTh⟩, a0, a1, a2, a3, a4, a5, a6, a7⟩ := id hJ
  refine z_xi hI (vx_runSX (As := [.ref px, .int (xs (nI (4 * k + 1)).toNatClampNeg), .ref po]) (rest := []) ⟨hx, hb, hml, hown, hts⟩ (c_L_wanted l hnt D tc z0 _ κ g _ px hkx (xs (nI (4 * k + 1)).toNatClampNeg) po hko aC hC) (vx_cwSW 3 hts gL_law_L_wanted rfl rfl rfl (by decide +kernel) ⟨Nat.le_of_ble_eq_true rfl, Nat.le_of_ble_eq_true rfl⟩) (z_pre (Xc := []) hK hE hI [] rfl rfl) rfl rfl hl.1 rfl (lv_room (Nat.le_of_ble_eq_true rfl)) dL_law_831 ⟨(show 60 + 20 * k + 37 * t + 1 ≤ 746514 from by omega), (show 400 + 120 * k + 162 * t + 6 ≤ 6862693 from by omega)⟩) (fun E ce q9 u H locs hw hI he1 he2 he3 => hw.elim) (fun v u H locs hw hI => ?_)
  have hn0 : nC = 0 := hCo.zero h0.1
  have hno : ∀ x, ¬ zHas g aC 6 x := fun x q => by obtain ⟨i9, hi9, -⟩ := (hCo.has hMo.bC (by decide)).mp q; omega
  rcases hw with ⟨rfl, r1, u1, v9, hp, hv9, hu⟩ | ⟨rfl, hp⟩
  · exact absurd hp.1 (hno _)
  · obtain ⟨⟨_, q1⟩, hp⟩ := hp
    cases hp
    refine lv_istore (lv' := [(6, .int 1), (0, .ref b), (1, .ref px), (2, .ref pm), (3, .ref po), (4, .ref pd), (5, .int (nI (4 * k)))]) hx hb dL_law_834 hl (by decide) rfl (fun ls hl => ?_)
    refine lv_aload_n hx hb dL_law_836 rfl (lv_at hl 3 rfl) ?_
    refine lv_aload_n hx hb dL_law_837 rfl (lv_at hl 1 rfl) ?_
    refine lv_iload hx hb dL_law_838 (lv_at hl 6 rfl) ?_
    refine lv_iconst (v := 1) hx hb dL_law_840 (by decide) ?_
    refine lv_iadd hx hb dL_law_841 ?_
    rw [show nI (4 * k) + 1 = nI (4 * k + 1) from nI_add _ _]
    refine va_sld hx hb hX hbl hbA hI.2.1 (vp_in_nI (show 4 * k + 1 < N from by omega) (by omega)) dL_law_842 ?_
    refine z_ci hI (va_runV (As := [.int (xs (nI (4 * k + 1)).toNatClampNeg)]) (rest := []) ⟨hx, hb, hml, hown, hts⟩ (c_X11_wanted l D tc z0 _ κ g _ pm hkm (xs (nI (4 * k + 1)).toNatClampNeg) lc eC nC mC cf lt eT nT mT tf hMo) (cwV 1 hts gL_law_X11_wanted rfl rfl rfl (by decide +kernel) ⟨Nat.le_of_ble_eq_true rfl, Nat.le_of_ble_eq_true rfl⟩) (z_preV (Xc := []) hK hE hI [] rfl rfl (z_recv hK hI hkm rfl rfl)) rfl rfl hl.1 rfl (lv_room (Nat.le_of_ble_eq_true rfl)) dL_law_843 ⟨(show 60 + 20 * k + 37 * t + 1 + 0 ≤ 746514 from by omega), (show 400 + 120 * k + 162 * t + 6 + 0 ≤ 6862693 from by omega)⟩) (fun w u H locs hw hI => ?_)
    obtain ⟨v8, hv8, rfl⟩ := hw
    obtain rfl : v8 = 1 := hv8 hn0
    have hJ : zJ κ (zup g pm 12 (.int 1)) z0 px pm rq co sp aC aT t := hJ.upM (by decide)
    have hI : zI D tc (zA [] [] s.heap.size) s.heap [] L κ (zup g pm 12 (.int 1)) H locs := hI
    have hcd : (zup g pm 12 (.int 1)) pm 12 = .int 1 := zup_self _ _ _ _
    generalize (zup g pm 12 (.int 1)) = g3 at hI hJ hcd
    refine lv_istore (lv' := [(7, .int w), (6, .int 1), (0, .ref b), (1, .ref px), (2, .ref pm), (3, .ref po), (4, .ref pd), (5, .int (nI (4 * k)))]) hx hb dL_law_846 hl (by decide) rfl (fun ls hl => ?_)
    refine lv_aload_n hx hb dL_law_848 rfl (lv_at hl 4 rfl) ?_
    refine z_ci hI (va_runV (As := []) (rest := []) ⟨hx, hb, hml, hown, hts⟩ (c_X11_thrown l D tc z0 _ κ g3 _ pm hkm) (cwV 0 hts gL_law_X11_thrown rfl rfl rfl (by decide +kernel) ⟨Nat.le_of_ble_eq_true rfl, Nat.le_of_ble_eq_true rfl⟩) (z_preV (Xc := []) hK hE hI [] rfl rfl (z_recv hK hI hkm rfl rfl)) rfl rfl hl.1 rfl (lv_room (Nat.le_of_ble_eq_true rfl)) dL_law_849 ⟨(show 60 + 20 * k + 37 * t + 1 + 0 + 0 ≤ 746514 from by omega), (show 400 + 120 * k + 162 * t + 6 + 0 + 0 ≤ 6862693 from by omega)⟩) (fun w2 u H locs hw hI => ?_)
    obtain ⟨hw2, rfl⟩ := hw
    have hI : zI D tc (zA [] [] s.heap.size) s.heap [] L κ g3 H locs := hI
    obtain rfl : w2 = 1 := Value.int.inj (hw2.symm.trans hcd)
    refine lv_iload hx hb dL_law_852 (lv_at hl 1 rfl) ?_
    refine lv_icmp_eq (tgt := 859) hx hb dL_law_854 (by decide) (fun _ => ?_) (fun hne => absurd rfl hne)
    refine lv_iload hx hb dL_law_859 (lv_at hl 1 rfl) ?_
    refine lv_if_ne (tgt := 876) hx hb dL_law_861 (by decide) (fun _ => ?_) (fun h9 => absurd h9 (by decide))
    refine lv_goto (tgt := 2252) hx hb dL_law_876 (by decide) ?_
    have hl := lv_sub hl [2, 3, 4, 5, 6, 7] (l' := [(0, .ref b), (1, .ref px), (2, .ref pm), (3, .ref po), (4, .ref pd), (5, .int (nI (4 * k)))]) rfl
    refine W.widen (k := 60 + 20 * (k + 1) + 37 * t) (n := 400 + 120 * (k + 1) + 162 * t) (by omega) (by omega) ?_
    refine W.base ?_
    exact hN s.drawn L κ g3 _ _ _ _ (Drawn.sameBut.refl _ _) hJ hko hkd hI hl

set_option maxHeartbeats 4000000 in
set_option maxRecDepth 100000 in
theorem k_clamp (l : Launch) (hnt : l.stackTraces = false) {p : Program} {e : Env} {s : State} {m : MethodId} {below : List Frame} {meth : Method} {c : Code} {H : Heap} {locs : List Loc} {Q : State → Prop} {D : va_G} {tc : Nat → ClassId} {z0 b N : Nat} {xs : Nat → Int32} {px pm po pd rq co sp aC aT t k : Nat} {L : List Nat} {κ : Nat → Nat} {g : Nat → Nat → Value} {ls : Array Slot} (C : lwC p s m meth c b N xs D tc z0) (hk : 4 * k + 4 ≤ N) (hN8 : N ≤ 2048) (hJ : zJ κ g z0 px pm rq co sp aC aT t) (h0 : (∀ j, g aC j = .null) ∧ ∀ j, g aT j = .null) (hko : κ po = 29) (hkd : κ pd = 30) (hI : zI D tc (zA [] [] s.heap.size) s.heap [] L κ g H locs) (hl : lv_has ls 9 [(0, .ref b), (1, .ref px), (2, .ref pm), (3, .ref po), (4, .ref pd), (5, .int (nI (4 * k)))]) (hN : lwN p l e s m below meth c b D tc z0 px pm po pd rq co sp aC aT k Q) : W p l e room_1 s m #[Value.ref b] below meth c H locs (60 + 20 * k + 37 * t) (400 + 120 * k + 162 * t) Q (F0 m 879 ls []) := by
  obtain ⟨hx, hb, hml, hown, hts, hK, hE, hX, hbl⟩ := C
  have hbA : ¬ zA [] [] s.heap.size b := fun q => by rcases q with q | q | q; exact absurd q List.not_mem_nil; exact absurd q List.not_mem_nil; exact absurd hbl (Nat.not_lt.mpr q)
  have htb9 : t ≤ 9999 := hJ.1.2.2.1.2
  refine lv_aload_n hx hb dL_law_879 rfl (lv_at hl 1 rfl) ?_
  refine lv_aload_n hx hb dL_law_880 rfl (lv_at hl 0 rfl) ?_
  refine lv_iload hx hb dL_law_881 (lv_at hl 5 rfl) ?_
  refine lv_iconst (v := 1) hx hb dL_law_883 (by decide) ?_
  refine lv_iadd hx hb dL_law_884 ?_
  rw [show nI (4 * k) + 1 = nI (4 * k + 1) from nI_add _ _]
  refine va_sld hx hb hX hbl hbA hI.2.1 (vp_in_nI (show 4 * k + 1 < N from by omega) (by omega)) dL_law_885 ?_
  refine lv_aload_n hx hb dL_law_886 rfl (lv_at hl 3 rfl) ?_
  obtain ⟨⟨⟨hkx, hkm, hkq, hkO, hkS, hkC, hkT⟩, ⟨hR, hO, hS9, hC, hT⟩, ⟨htM, htb⟩, lc, eC, nC, mC, cf, lt, eT, nT, mT, tf, hMo, hCo, hTh⟩, a0, a1, a2, a3, a4, a5, a6, a7⟩ := id hJ
  refine z_xi hI (vx_runSX (As := [.ref px, .int (xs (nI (4 * k + 1)).toNatClampNeg), .ref po]) (rest := []) ⟨hx, hb, hml, hown, hts⟩ (c_L_clamp l hnt D tc z0 _ κ g _ px hkx (xs (nI (4 * k + 1)).toNatClampNeg) po hko aC hC) (vx_cwSW 3 hts gL_law_L_clamp rfl rfl rfl (by decide +kernel) ⟨Nat.le_of_ble_eq_true rfl, Nat.le_of_ble_eq_true rfl⟩) (z_pre (Xc := []) hK hE hI [] rfl rfl) rfl rfl hl.1 rfl (lv_room (Nat.le_of_ble_eq_true rfl)) dL_law_887 ⟨(show 60 + 20 * k + 37 * t + 1 ≤ 746514 from by omega), (show 400 + 120 * k + 162 * t + 6 ≤ 6862693 from by omega)⟩) (fun E ce q9 u H locs hw hI he1 he2 he3 => hw.elim) (fun v u H locs hw hI => ?_)
  have hn0 : nC = 0 := hCo.zero h0.1
  have hno : ∀ x, ¬ zHas g aC 6 x := fun x q => by obtain ⟨i9, hi9, -⟩ := (hCo.has hMo.bC (by decide)).mp q; omega
  rcases hw with ⟨rfl, r1, u1, v9, hp, hv9, hu⟩ | ⟨rfl, hp⟩
  · exact absurd hp.1 (hno _)
  · obtain ⟨⟨_, q1⟩, hp⟩ := hp
    cases hp
    refine lv_istore (lv' := [(6, .int 1), (0, .ref b), (1, .ref px), (2, .ref pm), (3, .ref po), (4, .ref pd), (5, .int (nI (4 * k)))]) hx hb dL_law_890 hl (by decide) rfl (fun ls hl => ?_)
    refine lv_aload_n hx hb dL_law_892 rfl (lv_at hl 3 rfl) ?_
    refine lv_aload_n hx hb dL_law_893 rfl (lv_at hl 1 rfl) ?_
    refine lv_iload hx hb dL_law_894 (lv_at hl 6 rfl) ?_
    refine lv_iconst (v := 1) hx hb dL_law_896 (by decide) ?_
    refine lv_iadd hx hb dL_law_897 ?_
    rw [show nI (4 * k) + 1 = nI (4 * k + 1) from nI_add _ _]
    refine va_sld hx hb hX hbl hbA hI.2.1 (vp_in_nI (show 4 * k + 1 < N from by omega) (by omega)) dL_law_898 ?_
    refine z_ci hI (va_runV (As := [.int (xs (nI (4 * k + 1)).toNatClampNeg)]) (rest := []) ⟨hx, hb, hml, hown, hts⟩ (c_X11_clamp l D tc z0 _ κ g _ pm hkm (xs (nI (4 * k + 1)).toNatClampNeg) lc eC nC mC cf lt eT nT mT tf hMo) (cwV 1 hts gL_law_X11_clamp rfl rfl rfl (by decide +kernel) ⟨Nat.le_of_ble_eq_true rfl, Nat.le_of_ble_eq_true rfl⟩) (z_preV (Xc := []) hK hE hI [] rfl rfl (z_recv hK hI hkm rfl rfl)) rfl rfl hl.1 rfl (lv_room (Nat.le_of_ble_eq_true rfl)) dL_law_899 ⟨(show 60 + 20 * k + 37 * t + 1 + 0 ≤ 746514 from by omega), (show 400 + 120 * k + 162 * t + 6 + 0 ≤ 6862693 from by omega)⟩) (fun w u H locs hw hI => ?_)
    obtain ⟨v8, hv8, rfl⟩ := hw
    obtain rfl : v8 = 1 := hv8 hn0
    have hJ : zJ κ (zup g pm 12 (.int 1)) z0 px pm rq co sp aC aT t := hJ.upM (by decide)
    have hI : zI D tc (zA [] [] s.heap.size) s.heap [] L κ (zup g pm 12 (.int 1)) H locs := hI
    have hcd : (zup g pm 12 (.int 1)) pm 12 = .int 1 := zup_self _ _ _ _
    generalize (zup g pm 12 (.int 1)) = g3 at hI hJ hcd
    refine lv_istore (lv' := [(7, .int w), (6, .int 1), (0, .ref b), (1, .ref px), (2, .ref pm), (3, .ref po), (4, .ref pd), (5, .int (nI (4 * k)))]) hx hb dL_law_902 hl (by decide) rfl (fun ls hl => ?_)
    refine lv_aload_n hx hb dL_law_904 rfl (lv_at hl 4 rfl) ?_
    refine z_ci hI (va_runV (As := []) (rest := []) ⟨hx, hb, hml, hown, hts⟩ (c_X11_thrown l D tc z0 _ κ g3 _ pm hkm) (cwV 0 hts gL_law_X11_thrown rfl rfl rfl (by decide +kernel) ⟨Nat.le_of_ble_eq_true rfl, Nat.le_of_ble_eq_true rfl⟩) (z_preV (Xc := []) hK hE hI [] rfl rfl (z_recv hK hI hkm rfl rfl)) rfl rfl hl.1 rfl (lv_room (Nat.le_of_ble_eq_true rfl)) dL_law_905 ⟨(show 60 + 20 * k + 37 * t + 1 + 0 + 0 ≤ 746514 from by omega), (show 400 + 120 * k + 162 * t + 6 + 0 + 0 ≤ 6862693 from by omega)⟩) (fun w2 u H locs hw hI => ?_)
    obtain ⟨hw2, rfl⟩ := hw
    have hI : zI D tc (zA [] [] s.heap.size) s.heap [] L κ g3 H locs := hI
    obtain rfl : w2 = 1 := Value.int.inj (hw2.symm.trans hcd)
    refine lv_iload hx hb dL_law_908 (lv_at hl 1 rfl) ?_
    refine lv_icmp_eq (tgt := 915) hx hb dL_law_910 (by decide) (fun _ => ?_) (fun hne => absurd rfl hne)
    refine lv_iload hx hb dL_law_915 (lv_at hl 1 rfl) ?_
    refine lv_if_ne (tgt := 932) hx hb dL_law_917 (by decide) (fun _ => ?_) (fun h9 => absurd h9 (by decide))
    refine lv_goto (tgt := 2252) hx hb dL_law_932 (by decide) ?_
    have hl := lv_sub hl [2, 3, 4, 5, 6, 7] (l' := [(0, .ref b), (1, .ref px), (2, .ref pm), (3, .ref po), (4, .ref pd), (5, .int (nI (4 * k)))]) rfl
    refine W.widen (k := 60 + 20 * (k + 1) + 37 * t) (n := 400 + 120 * (k + 1) + 162 * t) (by omega) (by omega) ?_
    refine W.base ?_
    exact hN s.drawn L κ g3 _ _ _ _ (Drawn.sameBut.refl _ _) hJ hko hkd hI hl

set_option maxHeartbeats 4000000 in
set_option maxRecDepth 100000 in
theorem k_sleep (l : Launch) (hnt : l.stackTraces = false) {p : Program} {e : Env} {s : State} {m : MethodId} {below : List Frame} {meth : Method} {c : Code} {H : Heap} {locs : List Loc} {Q : State → Prop} {D : va_G} {tc : Nat → ClassId} {z0 b N : Nat} {xs : Nat → Int32} {px pm po pd rq co sp aC aT t k : Nat} {L : List Nat} {κ : Nat → Nat} {g : Nat → Nat → Value} {ls : Array Slot} (C : lwC p s m meth c b N xs D tc z0) (hk : 4 * k + 4 ≤ N) (hN8 : N ≤ 2048) (hJ : zJ κ g z0 px pm rq co sp aC aT t) (h0 : (∀ j, g aC j = .null) ∧ ∀ j, g aT j = .null) (hko : κ po = 29) (hkd : κ pd = 30) (hI : zI D tc (zA [] [] s.heap.size) s.heap [] L κ g H locs) (hl : lv_has ls 9 [(0, .ref b), (1, .ref px), (2, .ref pm), (3, .ref po), (4, .ref pd), (5, .int (nI (4 * k)))]) (hN : lwN p l e s m below meth c b D tc z0 px pm po pd rq co sp aC aT k Q) : W p l e room_1 s m #[Value.ref b] below meth c H locs (60 + 20 * k + 37 * t) (400 + 120 * k + 162 * t) Q (F0 m 935 ls []) := by
  obtain ⟨hx, hb, hml, hown, hts, hK, hE, hX, hbl⟩ := C
  have hbA : ¬ zA [] [] s.heap.size b := fun q => by rcases q with q | q | q; exact absurd q List.not_mem_nil; exact absurd q List.not_mem_nil; exact absurd hbl (Nat.not_lt.mpr q)
  have htb9 : t ≤ 9999 := hJ.1.2.2.1.2
  refine lv_aload_n hx hb dL_law_935 rfl (lv_at hl 1 rfl) ?_
  refine lv_aload_n hx hb dL_law_936 rfl (lv_at hl 0 rfl) ?_
  refine lv_iload hx hb dL_law_937 (lv_at hl 5 rfl) ?_
  refine lv_iconst (v := 1) hx hb dL_law_939 (by decide) ?_
  refine lv_iadd hx hb dL_law_940 ?_
  rw [show nI (4 * k) + 1 = nI (4 * k + 1) from nI_add _ _]
  refine va_sld hx hb hX hbl hbA hI.2.1 (vp_in_nI (show 4 * k + 1 < N from by omega) (by omega)) dL_law_941 ?_
  refine lv_aload_n hx hb dL_law_942 rfl (lv_at hl 3 rfl) ?_
  obtain ⟨⟨⟨hkx, hkm, hkq, hkO, hkS, hkC, hkT⟩, ⟨hR, hO, hS9, hC, hT⟩, ⟨htM, htb⟩, lc, eC, nC, mC, cf, lt, eT, nT, mT, tf, hMo, hCo, hTh⟩, a0, a1, a2, a3, a4, a5, a6, a7⟩ := id hJ
  refine z_xi hI (vx_runSX (As := [.ref px, .int (xs (nI (4 * k + 1)).toNatClampNeg), .ref po]) (rest := []) ⟨hx, hb, hml, hown, hts⟩ (c_L_sleep l hnt D tc z0 _ κ g _ px hkx (xs (nI (4 * k + 1)).toNatClampNeg) po hko aC hC) (vx_cwSW 3 hts gL_law_L_sleep rfl rfl rfl (by decide +kernel) ⟨Nat.le_of_ble_eq_true rfl, Nat.le_of_ble_eq_true rfl⟩) (z_pre (Xc := []) hK hE hI [] rfl rfl) rfl rfl hl.1 rfl (lv_room (Nat.le_of_ble_eq_true rfl)) dL_law_943 ⟨(show 60 + 20 * k + 37 * t + 1 ≤ 746514 from by omega), (show 400 + 120 * k + 162 * t + 6 ≤ 6862693 from by omega)⟩) (fun E ce q9 u H locs hw hI he1 he2 he3 => hw.elim) (fun v u H locs hw hI => ?_)
  have hn0 : nC = 0 := hCo.zero h0.1
  have hno : ∀ x, ¬ zHas g aC 6 x := fun x q => by obtain ⟨i9, hi9, -⟩ := (hCo.has hMo.bC (by decide)).mp q; omega
  rcases hw with ⟨rfl, r1, u1, v9, hp, hv9, hu⟩ | ⟨rfl, hp⟩
  · exact absurd hp.1 (hno _)
  · obtain ⟨⟨_, q1⟩, hp⟩ := hp
    cases hp
    refine lv_istore (lv' := [(6, .int 1), (0, .ref b), (1, .ref px), (2, .ref pm), (3, .ref po), (4, .ref pd), (5, .int (nI (4 * k)))]) hx hb dL_law_946 hl (by decide) rfl (fun ls hl => ?_)
    refine lv_aload_n hx hb dL_law_948 rfl (lv_at hl 3 rfl) ?_
    refine lv_aload_n hx hb dL_law_949 rfl (lv_at hl 1 rfl) ?_
    refine lv_iload hx hb dL_law_950 (lv_at hl 6 rfl) ?_
    refine lv_iconst (v := 1) hx hb dL_law_952 (by decide) ?_
    refine lv_iadd hx hb dL_law_953 ?_
    rw [show nI (4 * k) + 1 = nI (4 * k + 1) from nI_add _ _]
    refine va_sld hx hb hX hbl hbA hI.2.1 (vp_in_nI (show 4 * k + 1 < N from by omega) (by omega)) dL_law_954 ?_
    refine z_ci hI (va_runV (As := [.int (xs (nI (4 * k + 1)).toNatClampNeg)]) (rest := []) ⟨hx, hb, hml, hown, hts⟩ (c_X11_sleep l D tc z0 _ κ g _ pm hkm (xs (nI (4 * k + 1)).toNatClampNeg) lc eC nC mC cf lt eT nT mT tf hMo) (cwV 1 hts gL_law_X11_sleep rfl rfl rfl (by decide +kernel) ⟨Nat.le_of_ble_eq_true rfl, Nat.le_of_ble_eq_true rfl⟩) (z_preV (Xc := []) hK hE hI [] rfl rfl (z_recv hK hI hkm rfl rfl)) rfl rfl hl.1 rfl (lv_room (Nat.le_of_ble_eq_true rfl)) dL_law_955 ⟨(show 60 + 20 * k + 37 * t + 1 + 0 ≤ 746514 from by omega), (show 400 + 120 * k + 162 * t + 6 + 0 ≤ 6862693 from by omega)⟩) (fun w u H locs hw hI => ?_)
    obtain ⟨v8, hv8, rfl⟩ := hw
    obtain rfl : v8 = 1 := hv8 hn0
    have hJ : zJ κ (zup g pm 12 (.int 1)) z0 px pm rq co sp aC aT t := hJ.upM (by decide)
    have hI : zI D tc (zA [] [] s.heap.size) s.heap [] L κ (zup g pm 12 (.int 1)) H locs := hI
    have hcd : (zup g pm 12 (.int 1)) pm 12 = .int 1 := zup_self _ _ _ _
    generalize (zup g pm 12 (.int 1)) = g3 at hI hJ hcd
    refine lv_istore (lv' := [(7, .int w), (6, .int 1), (0, .ref b), (1, .ref px), (2, .ref pm), (3, .ref po), (4, .ref pd), (5, .int (nI (4 * k)))]) hx hb dL_law_958 hl (by decide) rfl (fun ls hl => ?_)
    refine lv_aload_n hx hb dL_law_960 rfl (lv_at hl 4 rfl) ?_
    refine z_ci hI (va_runV (As := []) (rest := []) ⟨hx, hb, hml, hown, hts⟩ (c_X11_thrown l D tc z0 _ κ g3 _ pm hkm) (cwV 0 hts gL_law_X11_thrown rfl rfl rfl (by decide +kernel) ⟨Nat.le_of_ble_eq_true rfl, Nat.le_of_ble_eq_true rfl⟩) (z_preV (Xc := []) hK hE hI [] rfl rfl (z_recv hK hI hkm rfl rfl)) rfl rfl hl.1 rfl (lv_room (Nat.le_of_ble_eq_true rfl)) dL_law_961 ⟨(show 60 + 20 * k + 37 * t + 1 + 0 + 0 ≤ 746514 from by omega), (show 400 + 120 * k + 162 * t + 6 + 0 + 0 ≤ 6862693 from by omega)⟩) (fun w2 u H locs hw hI => ?_)
    obtain ⟨hw2, rfl⟩ := hw
    have hI : zI D tc (zA [] [] s.heap.size) s.heap [] L κ g3 H locs := hI
    obtain rfl : w2 = 1 := Value.int.inj (hw2.symm.trans hcd)
    refine lv_iload hx hb dL_law_964 (lv_at hl 1 rfl) ?_
    refine lv_icmp_eq (tgt := 971) hx hb dL_law_966 (by decide) (fun _ => ?_) (fun hne => absurd rfl hne)
    refine lv_iload hx hb dL_law_971 (lv_at hl 1 rfl) ?_
    refine lv_if_ne (tgt := 988) hx hb dL_law_973 (by decide) (fun _ => ?_) (fun h9 => absurd h9 (by decide))
    refine lv_goto (tgt := 2252) hx hb dL_law_988 (by decide) ?_
    have hl := lv_sub hl [2, 3, 4, 5, 6, 7] (l' := [(0, .ref b), (1, .ref px), (2, .ref pm), (3, .ref po), (4, .ref pd), (5, .int (nI (4 * k)))]) rfl
    refine W.widen (k := 60 + 20 * (k + 1) + 37 * t) (n := 400 + 120 * (k + 1) + 162 * t) (by omega) (by omega) ?_
    refine W.base ?_
    exact hN s.drawn L κ g3 _ _ _ _ (Drawn.sameBut.refl _ _) hJ hko hkd hI hl

set_option maxHeartbeats 4000000 in
set_option maxRecDepth 100000 in
theorem k_isBusy (l : Launch) (hnt : l.stackTraces = false) {p : Program} {e : Env} {s : State} {m : MethodId} {below : List Frame} {meth : Method} {c : Code} {H : Heap} {locs : List Loc} {Q : State → Prop} {D : va_G} {tc : Nat → ClassId} {z0 b N : Nat} {xs : Nat → Int32} {px pm po pd rq co sp aC aT t k : Nat} {L : List Nat} {κ : Nat → Nat} {g : Nat → Nat → Value} {ls : Array Slot} (C : lwC p s m meth c b N xs D tc z0) (hk : 4 * k + 4 ≤ N) (hN8 : N ≤ 2048) (hJ : zJ κ g z0 px pm rq co sp aC aT t) (h0 : (∀ j, g aC j = .null) ∧ ∀ j, g aT j = .null) (hko : κ po = 29) (hkd : κ pd = 30) (hI : zI D tc (zA [] [] s.heap.size) s.heap [] L κ g H locs) (hl : lv_has ls 9 [(0, .ref b), (1, .ref px), (2, .ref pm), (3, .ref po), (4, .ref pd), (5, .int (nI (4 * k)))]) (hN : lwN p l e s m below meth c b D tc z0 px pm po pd rq co sp aC aT k Q) : W p l e room_1 s m #[Value.ref b] below meth c H locs (60 + 20 * k + 37 * t) (400 + 120 * k + 162 * t) Q (F0 m 991 ls []) := by
  obtain ⟨hx, hb, hml, hown, hts, hK, hE, hX, hbl⟩ := C
  have hbA : ¬ zA [] [] s.heap.size b := fun q => by rcases q with q | q | q; exact absurd q List.not_mem_nil; exact absurd q List.not_mem_nil; exact absurd hbl (Nat.not_lt.mpr q)
  have htb9 : t ≤ 9999 := hJ.1.2.2.1.2
  refine lv_aload_n hx hb dL_law_991 rfl (lv_at hl 1 rfl) ?_
  refine lv_aload_n hx hb dL_law_992 rfl (lv_at hl 0 rfl) ?_
  refine lv_iload hx hb dL_law_993 (lv_at hl 5 rfl) ?_
  refine lv_iconst (v := 1) hx hb dL_law_995 (by decide) ?_
  refine lv_iadd hx hb dL_law_996 ?_
  rw [show nI (4 * k) + 1 = nI (4 * k + 1) from nI_add _ _]
  refine va_sld hx hb hX hbl hbA hI.2.1 (vp_in_nI (show 4 * k + 1 < N from by omega) (by omega)) dL_law_997 ?_
  refine lv_aload_n hx hb dL_law_998 rfl (lv_at hl 3 rfl) ?_
  obtain ⟨⟨⟨hkx, hkm, hkq, hkO, hkS, hkC, hkT⟩, ⟨hR, hO, hS9, hC, hT⟩, ⟨htM, htb⟩, lc, eC, nC, mC, cf, lt, eT, nT, mT, tf, hMo, hCo, hTh⟩, a0, a1, a2, a3, a4, a5, a6, a7⟩ := id hJ
  refine z_xi hI (vx_runSX (As := [.ref px, .int (xs (nI (4 * k + 1)).toNatClampNeg), .ref po]) (rest := []) ⟨hx, hb, hml, hown, hts⟩ (c_L_isBusy l hnt D tc z0 _ κ g _ px hkx (xs (nI (4 * k + 1)).toNatClampNeg) po hko aC hC) (vx_cwSW 3 hts gL_law_L_isBusy rfl rfl rfl (by decide +kernel) ⟨Nat.le_of_ble_eq_true rfl, Nat.le_of_ble_eq_true rfl⟩) (z_pre (Xc := []) hK hE hI [] rfl rfl) rfl rfl hl.1 rfl (lv_room (Nat.le_of_ble_eq_true rfl)) dL_law_999 ⟨(show 60 + 20 * k + 37 * t + 1 ≤ 746514 from by omega), (show 400 + 120 * k + 162 * t + 6 ≤ 6862693 from by omega)⟩) (fun E ce q9 u H locs hw hI he1 he2 he3 => hw.elim) (fun v u H locs hw hI => ?_)
  have hn0 : nC = 0 := hCo.zero h0.1
  have hno : ∀ x, ¬ zHas g aC 6 x := fun x q => by obtain ⟨i9, hi9, -⟩ := (hCo.has hMo.bC (by decide)).mp q; omega
  rcases hw with ⟨rfl, r1, u1, v9, hp, hv9, hu⟩ | ⟨rfl, hp⟩
  · exact absurd hp.1 (hno _)
  · obtain ⟨⟨_, q1⟩, hp⟩ := hp
    cases hp
    refine lv_istore (lv' := [(6, .int 1), (0, .ref b), (1, .ref px), (2, .ref pm), (3, .ref po), (4, .ref pd), (5, .int (nI (4 * k)))]) hx hb dL_law_1002 hl (by decide) rfl (fun ls hl => ?_)
    refine lv_aload_n hx hb dL_law_1004 rfl (lv_at hl 3 rfl) ?_
    refine lv_aload_n hx hb dL_law_1005 rfl (lv_at hl 1 rfl) ?_
    refine lv_iload hx hb dL_law_1006 (lv_at hl 6 rfl) ?_
    refine lv_iconst (v := 1) hx hb dL_law_1008 (by decide) ?_
    refine lv_iadd hx hb dL_law_1009 ?_
    rw [show nI (4 * k) + 1 = nI (4 * k + 1) from nI_add _ _]
    refine va_sld hx hb hX hbl hbA hI.2.1 (vp_in_nI (show 4 * k + 1 < N from by omega) (by omega)) dL_law_1010 ?_
    refine z_ci hI (va_runV (As := [.int (xs (nI (4 * k + 1)).toNatClampNeg)]) (rest := []) ⟨hx, hb, hml, hown, hts⟩ (c_X11_isBusy l D tc z0 _ κ g _ pm hkm (xs (nI (4 * k + 1)).toNatClampNeg) lc eC nC mC cf lt eT nT mT tf hMo) (cwV 1 hts gL_law_X11_isBusy rfl rfl rfl (by decide +kernel) ⟨Nat.le_of_ble_eq_true rfl, Nat.le_of_ble_eq_true rfl⟩) (z_preV (Xc := []) hK hE hI [] rfl rfl (z_recv hK hI hkm rfl rfl)) rfl rfl hl.1 rfl (lv_room (Nat.le_of_ble_eq_true rfl)) dL_law_1011 ⟨(show 60 + 20 * k + 37 * t + 1 + 1 ≤ 746514 from by omega), (show 400 + 120 * k + 162 * t + 6 + 4 ≤ 6862693 from by omega)⟩) (fun w u H locs hw hI => ?_)
    obtain ⟨v8, hv8, rfl⟩ := hw
    obtain rfl : v8 = 1 := hv8 hn0
    have hJ : zJ κ (zup g pm 12 (.int 1)) z0 px pm rq co sp aC aT t := hJ.upM (by decide)
    have hI : zI D tc (zA [] [] s.heap.size) s.heap [] L κ (zup g pm 12 (.int 1)) H locs := hI
    have hcd : (zup g pm 12 (.int 1)) pm 12 = .int 1 := zup_self _ _ _ _
    generalize (zup g pm 12 (.int 1)) = g3 at hI hJ hcd
    refine lv_istore (lv' := [(7, .int w), (6, .int 1), (0, .ref b), (1, .ref px), (2, .ref pm), (3, .ref po), (4, .ref pd), (5, .int (nI (4 * k)))]) hx hb dL_law_1014 hl (by decide) rfl (fun ls hl => ?_)
    refine lv_aload_n hx hb dL_law_1016 rfl (lv_at hl 4 rfl) ?_
    refine z_ci hI (va_runV (As := []) (rest := []) ⟨hx, hb, hml, hown, hts⟩ (c_X11_thrown l D tc z0 _ κ g3 _ pm hkm) (cwV 0 hts gL_law_X11_thrown rfl rfl rfl (by decide +kernel) ⟨Nat.le_of_ble_eq_true rfl, Nat.le_of_ble_eq_true rfl⟩) (z_preV (Xc := []) hK hE hI [] rfl rfl (z_recv hK hI hkm rfl rfl)) rfl rfl hl.1 rfl (lv_room (Nat.le_of_ble_eq_true rfl)) dL_law_1017 ⟨(show 60 + 20 * k + 37 * t + 1 + 1 + 0 ≤ 746514 from by omega), (show 400 + 120 * k + 162 * t + 6 + 4 + 0 ≤ 6862693 from by omega)⟩) (fun w2 u H locs hw hI => ?_)
    obtain ⟨hw2, rfl⟩ := hw
    have hI : zI D tc (zA [] [] s.heap.size) s.heap [] L κ g3 H locs := hI
    obtain rfl : w2 = 1 := Value.int.inj (hw2.symm.trans hcd)
    refine lv_iload hx hb dL_law_1020 (lv_at hl 1 rfl) ?_
    refine lv_icmp_eq (tgt := 1027) hx hb dL_law_1022 (by decide) (fun _ => ?_) (fun hne => absurd rfl hne)
    refine lv_iload hx hb dL_law_1027 (lv_at hl 1 rfl) ?_
    refine lv_if_ne (tgt := 1051) hx hb dL_law_1029 (by decide) (fun _ => ?_) (fun h9 => absurd h9 (by decide))
    refine lv_goto (tgt := 2252) hx hb dL_law_1051 (by decide) ?_
    have hl := lv_sub hl [2, 3, 4, 5, 6, 7] (l' := [(0, .ref b), (1, .ref px), (2, .ref pm), (3, .ref po), (4, .ref pd), (5, .int (nI (4 * k)))]) rfl
    refine W.widen (k := 60 + 20 * (k + 1) + 37 * t) (n := 400 + 120 * (k + 1) + 162 * t) (by omega) (by omega) ?_
    refine W.base ?_
    exact hN s.drawn L κ g3 _ _ _ _ (Drawn.sameBut.refl _ _) hJ hko hkd hI hl

set_option maxHeartbeats 4000000 in
set_option maxRecDepth 100000 in
theorem k_need (l : Launch) (hnt : l.stackTraces = false) {p : Program} {e : Env} {s : State} {m : MethodId} {below : List Frame} {meth : Method} {c : Code} {H : Heap} {locs : List Loc} {Q : State → Prop} {D : va_G} {tc : Nat → ClassId} {z0 b N : Nat} {xs : Nat → Int32} {px pm po pd rq co sp aC aT t k : Nat} {L : List Nat} {κ : Nat → Nat} {g : Nat → Nat → Value} {ls : Array Slot} (C : lwC p s m meth c b N xs D tc z0) (hk : 4 * k + 4 ≤ N) (hN8 : N ≤ 2048) (hJ : zJ κ g z0 px pm rq co sp aC aT t) (h0 : (∀ j, g aC j = .null) ∧ ∀ j, g aT j = .null) (hko : κ po = 29) (hkd : κ pd = 30) (hI : zI D tc (zA [] [] s.heap.size) s.heap [] L κ g H locs) (hl : lv_has ls 9 [(0, .ref b), (1, .ref px), (2, .ref pm), (3, .ref po), (4, .ref pd), (5, .int (nI (4 * k)))]) (hN : lwN p l e s m below meth c b D tc z0 px pm po pd rq co sp aC aT k Q) : W p l e room_1 s m #[Value.ref b] below meth c H locs (60 + 20 * k + 37 * t) (400 + 120 * k + 162 * t) Q (F0 m 1054 ls []) := by
  obtain ⟨hx, hb, hml, hown, hts, hK, hE, hX, hbl⟩ := C
  have hbA : ¬ zA [] [] s.heap.size b := fun q => by rcases q with q | q | q; exact absurd q List.not_mem_nil; exact absurd q List.not_mem_nil; exact absurd hbl (Nat.not_lt.mpr q)
  have htb9 : t ≤ 9999 := hJ.1.2.2.1.2
  refine lv_aload_n hx hb dL_law_1054 rfl (lv_at hl 1 rfl) ?_
  refine lv_aload_n hx hb dL_law_1055 rfl (lv_at hl 0 rfl) ?_
  refine lv_iload hx hb dL_law_1056 (lv_at hl 5 rfl) ?_
  refine lv_iconst (v := 1) hx hb dL_law_1058 (by decide) ?_
  refine lv_iadd hx hb dL_law_1059 ?_
  rw [show nI (4 * k) + 1 = nI (4 * k + 1) from nI_add _ _]
  refine va_sld hx hb hX hbl hbA hI.2.1 (vp_in_nI (show 4 * k + 1 < N from by omega) (by omega)) dL_law_1060 ?_
  refine lv_aload_n hx hb dL_law_1061 rfl (lv_at hl 0 rfl) ?_
  refine lv_iload hx hb dL_law_1062 (lv_at hl 5 rfl) ?_
  refine lv_iconst (v := 2) hx hb dL_law_1064 (by decide) ?_
  refine lv_iadd hx hb dL_law_1065 ?_
  rw [show nI (4 * k) + 2 = nI (4 * k + 2) from nI_add _ _]
  refine va_sld hx hb hX hbl hbA hI.2.1 (vp_in_nI (show 4 * k + 2 < N from by omega) (by omega)) dL_law_1066 ?_
  refine lv_aload_n hx hb dL_law_1067 rfl (lv_at hl 3 rfl) ?_
  obtain ⟨⟨⟨hkx, hkm, hkq, hkO, hkS, hkC, hkT⟩, ⟨hR, hO, hS9, hC, hT⟩, ⟨htM, htb⟩, lc, eC, nC, mC, cf, lt, eT, nT, mT, tf, hMo, hCo, hTh⟩, a0, a1, a2, a3, a4, a5, a6, a7⟩ := id hJ
  refine z_xi hI (vx_runSX (As := [.ref px, .int (xs (nI (4 * k + 1)).toNatClampNeg), .int (xs (nI (4 * k + 2)).toNatClampNeg), .ref po]) (rest := []) ⟨hx, hb, hml, hown, hts⟩ (c_L_need l hnt D tc z0 _ κ g _ px hkx (xs (nI (4 * k + 1)).toNatClampNeg) (xs (nI (4 * k + 2)).toNatClampNeg) po hko aC hC) (vx_cwSW 4 hts gL_law_L_need rfl rfl rfl (by decide +kernel) ⟨Nat.le_of_ble_eq_true rfl, Nat.le_of_ble_eq_true rfl⟩) (z_pre (Xc := []) hK hE hI [] rfl rfl) rfl rfl hl.1 rfl (lv_room (Nat.le_of_ble_eq_true rfl)) dL_law_1068 ⟨(show 60 + 20 * k + 37 * t + 2 ≤ 746514 from by omega), (show 400 + 120 * k + 162 * t + 12 ≤ 6862693 from by omega)⟩) (fun E ce q9 u H locs hw hI he1 he2 he3 => hw.elim) (fun v u H locs hw hI => ?_)
  have hn0 : nC = 0 := hCo.zero h0.1
  have hno : ∀ x, ¬ zHas g aC 6 x := fun x q => by obtain ⟨i9, hi9, -⟩ := (hCo.has hMo.bC (by decide)).mp q; omega
  rcases hw with ⟨rfl, r1, u1, v9, hp, hv9, hu⟩ | ⟨rfl, hp⟩ | ⟨rfl, hp⟩
  · exact absurd hp.1 (hno _)
  · rcases hp with ⟨⟨_, q1⟩ | ⟨q0, _⟩, hp⟩
    · cases hp
      refine lv_istore (lv' := [(6, .int 1), (0, .ref b), (1, .ref px), (2, .ref pm), (3, .ref po), (4, .ref pd), (5, .int (nI (4 * k)))]) hx hb dL_law_1071 hl (by decide) rfl (fun ls hl => ?_)
      refine lv_aload_n hx hb dL_law_1073 rfl (lv_at hl 3 rfl) ?_
      refine lv_aload_n hx hb dL_law_1074 rfl (lv_at hl 1 rfl) ?_
      refine lv_iload hx hb dL_law_1075 (lv_at hl 6 rfl) ?_
      refine lv_iconst (v := 1) hx hb dL_law_1077 (by decide) ?_
      refine lv_iadd hx hb dL_law_1078 ?_
      rw [show nI (4 * k) + 1 = nI (4 * k + 1) from nI_add _ _]
      refine va_sld hx hb hX hbl hbA hI.2.1 (vp_in_nI (show 4 * k + 1 < N from by omega) (by omega)) dL_law_1079 ?_
      refine lv_aload_n hx hb dL_law_1080 rfl (lv_at hl 1 rfl) ?_
      refine lv_iload hx hb dL_law_1081 (lv_at hl 6 rfl) ?_
      refine lv_iconst (v := 2) hx hb dL_law_1083 (by decide) ?_
      refine lv_iadd hx hb dL_law_1084 ?_
      rw [show nI (4 * k) + 2 = nI (4 * k + 2) from nI_add _ _]
      refine va_sld hx hb hX hbl hbA hI.2.1 (vp_in_nI (show 4 * k + 2 < N from by omega) (by omega)) dL_law_1085 ?_
      refine z_ci hI (va_runV (As := [.int (xs (nI (4 * k + 1)).toNatClampNeg), .int (xs (nI (4 * k + 2)).toNatClampNeg)]) (rest := []) ⟨hx, hb, hml, hown, hts⟩ (c_X11_need l D tc z0 _ κ g _ pm hkm (xs (nI (4 * k + 1)).toNatClampNeg) (xs (nI (4 * k + 2)).toNatClampNeg) lc eC nC mC cf lt eT nT mT tf hMo) (cwV 2 hts gL_law_X11_need rfl rfl rfl (by decide +kernel) ⟨Nat.le_of_ble_eq_true rfl, Nat.le_of_ble_eq_true rfl⟩) (z_preV (Xc := []) hK hE hI [] rfl rfl (z_recv hK hI hkm rfl rfl)) rfl rfl hl.1 rfl (lv_room (Nat.le_of_ble_eq_true rfl)) dL_law_1086 ⟨(show 60 + 20 * k + 37 * t + 2 + 0 ≤ 746514 from by omega), (show 400 + 120 * k + 162 * t + 12 + 0 ≤ 6862693 from by omega)⟩) (fun w u H locs hw hI => ?_)
      obtain ⟨v8, hv8, rfl⟩ := hw
      obtain rfl : v8 = 1 := hv8 hn0
      have hJ : zJ κ (zup g pm 12 (.int 1)) z0 px pm rq co sp aC aT t := hJ.upM (by decide)
      have hI : zI D tc (zA [] [] s.heap.size) s.heap [] L κ (zup g pm 12 (.int 1)) H locs := hI
      have hcd : (zup g pm 12 (.int 1)) pm 12 = .int 1 := zup_self _ _ _ _
      generalize (zup g pm 12 (.int 1)) = g3 at hI hJ hcd
      refine lv_istore (lv' := [(7, .int w), (6, .int 1), (0, .ref b), (1, .ref px), (2, .ref pm), (3, .ref po), (4, .ref pd), (5, .int (nI (4 * k)))]) hx hb dL_law_1089 hl (by decide) rfl (fun ls hl => ?_)
      refine lv_aload_n hx hb dL_law_1091 rfl (lv_at hl 4 rfl) ?_
      refine z_ci hI (va_runV (As := []) (rest := []) ⟨hx, hb, hml, hown, hts⟩ (c_X11_thrown l D tc z0 _ κ g3 _ pm hkm) (cwV 0 hts gL_law_X11_thrown rfl rfl rfl (by decide +kernel) ⟨Nat.le_of_ble_eq_true rfl, Nat.le_of_ble_eq_true rfl⟩) (z_preV (Xc := []) hK hE hI [] rfl rfl (z_recv hK hI hkm rfl rfl)) rfl rfl hl.1 rfl (lv_room (Nat.le_of_ble_eq_true rfl)) dL_law_1092 ⟨(show 60 + 20 * k + 37 * t + 2 + 0 + 0 ≤ 746514 from by omega), (show 400 + 120 * k + 162 * t + 12 + 0 + 0 ≤ 6862693 from by omega)⟩) (fun w2 u H locs hw hI => ?_)
      obtain ⟨hw2, rfl⟩ := hw
      have hI : zI D tc (zA [] [] s.heap.size) s.heap [] L κ g3 H locs := hI
      obtain rfl : w2 = 1 := Value.int.inj (hw2.symm.trans hcd)
      refine lv_iload hx hb dL_law_1095 (lv_at hl 1 rfl) ?_
      refine lv_icmp_eq (tgt := 1102) hx hb dL_law_1097 (by decide) (fun _ => ?_) (fun hne => absurd rfl hne)
      refine lv_iload hx hb dL_law_1102 (lv_at hl 1 rfl) ?_
      refine lv_if_ne (tgt := 1119) hx hb dL_law_1104 (by decide) (fun _ => ?_) (fun h9 => absurd h9 (by decide))
      refine lv_goto (tgt := 2252) hx hb dL_law_1119 (by decide) ?_
      have hl := lv_sub hl [2, 3, 4, 5, 6, 7] (l' := [(0, .ref b), (1, .ref px), (2, .ref pm), (3, .ref po), (4, .ref pd), (5, .int (nI (4 * k)))]) rfl
      refine W.widen (k := 60 + 20 * (k + 1) + 37 * t) (n := 400 + 120 * (k + 1) + 162 * t) (by omega) (by omega) ?_
      refine W.base ?_
      exact hN s.drawn L κ g3 _ _ _ _ (Drawn.sameBut.refl _ _) hJ hko hkd hI hl
    · exact absurd q0 (by decide)
  · rcases hp with ⟨⟨q0, _⟩ | ⟨_, q1⟩, hp⟩
    · exact absurd q0 (by decide)
    · exact absurd q1 (hno _)

set_option maxHeartbeats 4000000 in
set_option maxRecDepth 100000 in
theorem k_volts (l : Launch) (hnt : l.stackTraces = false) {p : Program} {e : Env} {s : State} {m : MethodId} {below : List Frame} {meth : Method} {c : Code} {H : Heap} {locs : List Loc} {Q : State → Prop} {D : va_G} {tc : Nat → ClassId} {z0 b N : Nat} {xs : Nat → Int32} {px pm po pd rq co sp aC aT t k : Nat} {L : List Nat} {κ : Nat → Nat} {g : Nat → Nat → Value} {ls : Array Slot} (C : lwC p s m meth c b N xs D tc z0) (hk : 4 * k + 4 ≤ N) (hN8 : N ≤ 2048) (hJ : zJ κ g z0 px pm rq co sp aC aT t) (h0 : (∀ j, g aC j = .null) ∧ ∀ j, g aT j = .null) (hbad : ¬ vp_in (xs (nI (4 * k + 1)).toNatClampNeg) 3) (hko : κ po = 29) (hkd : κ pd = 30) (hI : zI D tc (zA [] [] s.heap.size) s.heap [] L κ g H locs) (hl : lv_has ls 9 [(0, .ref b), (1, .ref px), (2, .ref pm), (3, .ref po), (4, .ref pd), (5, .int (nI (4 * k)))]) (hN : lwN p l e s m below meth c b D tc z0 px pm po pd rq co sp aC aT k Q) : W p l e room_1 s m #[Value.ref b] below meth c H locs (60 + 20 * k + 37 * t) (400 + 120 * k + 162 * t) Q (F0 m 1122 ls []) := by
  obtain ⟨hx, hb, hml, hown, hts, hK, hE, hX, hbl⟩ := C
  have hbA : ¬ zA [] [] s.heap.size b := fun q => by rcases q with q | q | q; exact absurd q List.not_mem_nil; exact absurd q List.not_mem_nil; exact absurd hbl (Nat.not_lt.mpr q)
  have htb9 : t ≤ 9999 := hJ.1.2.2.1.2
  refine lv_aload_n hx hb dL_law_1122 rfl (lv_at hl 1 rfl) ?_
  refine lv_aload_n hx hb dL_law_1123 rfl (lv_at hl 0 rfl) ?_
  refine lv_iload hx hb dL_law_1124 (lv_at hl 5 rfl) ?_
  refine lv_iconst (v := 1) hx hb dL_law_1126 (by decide) ?_
  refine lv_iadd hx hb dL_law_1127 ?_
  rw [show nI (4 * k) + 1 = nI (4 * k + 1) from nI_add _ _]
  refine va_sld hx hb hX hbl hbA hI.2.1 (vp_in_nI (show 4 * k + 1 < N from by omega) (by omega)) dL_law_1128 ?_
  refine lv_aload_n hx hb dL_law_1129 rfl (lv_at hl 3 rfl) ?_
  obtain ⟨⟨⟨hkx, hkm, hkq, hkO, hkS, hkC, hkT⟩, ⟨hR, hO, hS9, hC, hT⟩, ⟨htM, htb⟩, lc, eC, nC, mC, cf, lt, eT, nT, mT, tf, hMo, hCo, hTh⟩, a0, a1, a2, a3, a4, a5, a6, a7⟩ := id hJ
  refine z_xi hI (vx_runSX (As := [.ref px, .int (xs (nI (4 * k + 1)).toNatClampNeg), .ref po]) (rest := []) ⟨hx, hb, hml, hown, hts⟩ (c_L_volts l hnt D tc z0 _ κ g _ px hkx (xs (nI (4 * k + 1)).toNatClampNeg) po hko ) (vx_cwSW 3 hts gL_law_L_volts rfl rfl rfl (by decide +kernel) ⟨Nat.le_of_ble_eq_true rfl, Nat.le_of_ble_eq_true rfl⟩) (z_pre (Xc := []) hK hE hI [] rfl rfl) rfl rfl hl.1 rfl (lv_room (Nat.le_of_ble_eq_true rfl)) dL_law_1130 ⟨(show 60 + 20 * k + 37 * t + 1 ≤ 746514 from by omega), (show 400 + 120 * k + 162 * t + 6 ≤ 6862693 from by omega)⟩) (fun E ce q9 u H locs hw hI he1 he2 he3 => hw.elim) (fun v u H locs hw hI => ?_)
  rcases hw with ⟨rfl, r1, u1, v9, hp, hv9, hu⟩ | ⟨rfl, hp⟩
  · exact absurd hp.1 hbad
  · obtain ⟨⟨_, q1⟩, hp⟩ := hp
    cases hp
    refine lv_istore (lv' := [(6, .int 1), (0, .ref b), (1, .ref px), (2, .ref pm), (3, .ref po), (4, .ref pd), (5, .int (nI (4 * k)))]) hx hb dL_law_1133 hl (by decide) rfl (fun ls hl => ?_)
    refine lv_aload_n hx hb dL_law_1135 rfl (lv_at hl 3 rfl) ?_
    refine lv_aload_n hx hb dL_law_1136 rfl (lv_at hl 1 rfl) ?_
    refine lv_iload hx hb dL_law_1137 (lv_at hl 6 rfl) ?_
    refine lv_iconst (v := 1) hx hb dL_law_1139 (by decide) ?_
    refine lv_iadd hx hb dL_law_1140 ?_
    rw [show nI (4 * k) + 1 = nI (4 * k + 1) from nI_add _ _]
    refine va_sld hx hb hX hbl hbA hI.2.1 (vp_in_nI (show 4 * k + 1 < N from by omega) (by omega)) dL_law_1141 ?_
    refine z_ci hI (va_runV (As := [.int (xs (nI (4 * k + 1)).toNatClampNeg)]) (rest := []) ⟨hx, hb, hml, hown, hts⟩ (c_X11_volts l D tc z0 _ κ g _ pm hkm (xs (nI (4 * k + 1)).toNatClampNeg) ) (cwV 1 hts gL_law_X11_volts rfl rfl rfl (by decide +kernel) ⟨Nat.le_of_ble_eq_true rfl, Nat.le_of_ble_eq_true rfl⟩) (z_preV (Xc := []) hK hE hI [] rfl rfl (z_recv hK hI hkm rfl rfl)) rfl rfl hl.1 rfl (lv_room (Nat.le_of_ble_eq_true rfl)) dL_law_1142 ⟨(show 60 + 20 * k + 37 * t + 1 + 0 ≤ 746514 from by omega), (show 400 + 120 * k + 162 * t + 6 + 0 ≤ 6862693 from by omega)⟩) (fun w u H locs hw hI => ?_)
    obtain ⟨v8, hv8, rfl⟩ := hw
    obtain rfl : v8 = 1 := hv8 (fun h => hbad (z_in3I.mpr h))
    have hJ : zJ κ (zup g pm 12 (.int 1)) z0 px pm rq co sp aC aT t := hJ.upM (by decide)
    have hI : zI D tc (zA [] [] s.heap.size) s.heap [] L κ (zup g pm 12 (.int 1)) H locs := hI
    have hcd : (zup g pm 12 (.int 1)) pm 12 = .int 1 := zup_self _ _ _ _
    generalize (zup g pm 12 (.int 1)) = g3 at hI hJ hcd
    refine lv_istore (lv' := [(7, .int w), (6, .int 1), (0, .ref b), (1, .ref px), (2, .ref pm), (3, .ref po), (4, .ref pd), (5, .int (nI (4 * k)))]) hx hb dL_law_1145 hl (by decide) rfl (fun ls hl => ?_)
    refine lv_aload_n hx hb dL_law_1147 rfl (lv_at hl 4 rfl) ?_
    refine z_ci hI (va_runV (As := []) (rest := []) ⟨hx, hb, hml, hown, hts⟩ (c_X11_thrown l D tc z0 _ κ g3 _ pm hkm) (cwV 0 hts gL_law_X11_thrown rfl rfl rfl (by decide +kernel) ⟨Nat.le_of_ble_eq_true rfl, Nat.le_of_ble_eq_true rfl⟩) (z_preV (Xc := []) hK hE hI [] rfl rfl (z_recv hK hI hkm rfl rfl)) rfl rfl hl.1 rfl (lv_room (Nat.le_of_ble_eq_true rfl)) dL_law_1148 ⟨(show 60 + 20 * k + 37 * t + 1 + 0 + 0 ≤ 746514 from by omega), (show 400 + 120 * k + 162 * t + 6 + 0 + 0 ≤ 6862693 from by omega)⟩) (fun w2 u H locs hw hI => ?_)
    obtain ⟨hw2, rfl⟩ := hw
    have hI : zI D tc (zA [] [] s.heap.size) s.heap [] L κ g3 H locs := hI
    obtain rfl : w2 = 1 := Value.int.inj (hw2.symm.trans hcd)
    refine lv_iload hx hb dL_law_1151 (lv_at hl 1 rfl) ?_
    refine lv_icmp_eq (tgt := 1158) hx hb dL_law_1153 (by decide) (fun _ => ?_) (fun hne => absurd rfl hne)
    refine lv_iload hx hb dL_law_1158 (lv_at hl 1 rfl) ?_
    refine lv_if_ne (tgt := 1175) hx hb dL_law_1160 (by decide) (fun _ => ?_) (fun h9 => absurd h9 (by decide))
    refine lv_goto (tgt := 2252) hx hb dL_law_1175 (by decide) ?_
    have hl := lv_sub hl [2, 3, 4, 5, 6, 7] (l' := [(0, .ref b), (1, .ref px), (2, .ref pm), (3, .ref po), (4, .ref pd), (5, .int (nI (4 * k)))]) rfl
    refine W.widen (k := 60 + 20 * (k + 1) + 37 * t) (n := 400 + 120 * (k + 1) + 162 * t) (by omega) (by omega) ?_
    refine W.base ?_
    exact hN s.drawn L κ g3 _ _ _ _ (Drawn.sameBut.refl _ _) hJ hko hkd hI hl

set_option maxHeartbeats 4000000 in
set_option maxRecDepth 100000 in
theorem k_heat (l : Launch) (hnt : l.stackTraces = false) {p : Program} {e : Env} {s : State} {m : MethodId} {below : List Frame} {meth : Method} {c : Code} {H : Heap} {locs : List Loc} {Q : State → Prop} {D : va_G} {tc : Nat → ClassId} {z0 b N : Nat} {xs : Nat → Int32} {px pm po pd rq co sp aC aT t k : Nat} {L : List Nat} {κ : Nat → Nat} {g : Nat → Nat → Value} {ls : Array Slot} (C : lwC p s m meth c b N xs D tc z0) (hk : 4 * k + 4 ≤ N) (hN8 : N ≤ 2048) (hJ : zJ κ g z0 px pm rq co sp aC aT t) (h0 : (∀ j, g aC j = .null) ∧ ∀ j, g aT j = .null) (hko : κ po = 29) (hkd : κ pd = 30) (hI : zI D tc (zA [] [] s.heap.size) s.heap [] L κ g H locs) (hl : lv_has ls 9 [(0, .ref b), (1, .ref px), (2, .ref pm), (3, .ref po), (4, .ref pd), (5, .int (nI (4 * k)))]) (hN : lwN p l e s m below meth c b D tc z0 px pm po pd rq co sp aC aT k Q) : W p l e room_1 s m #[Value.ref b] below meth c H locs (60 + 20 * k + 37 * t) (400 + 120 * k + 162 * t) Q (F0 m 1178 ls []) := by
  obtain ⟨hx, hb, hml, hown, hts, hK, hE, hX, hbl⟩ := C
  have hbA : ¬ zA [] [] s.heap.size b := fun q => by rcases q with q | q | q; exact absurd q List.not_mem_nil; exact absurd q List.not_mem_nil; exact absurd hbl (Nat.not_lt.mpr q)
  have htb9 : t ≤ 9999 := hJ.1.2.2.1.2
  refine lv_aload_n hx hb dL_law_1178 rfl (lv_at hl 1 rfl) ?_
  refine lv_aload_n hx hb dL_law_1179 rfl (lv_at hl 0 rfl) ?_
  refine lv_iload hx hb dL_law_1180 (lv_at hl 5 rfl) ?_
  refine lv_iconst (v := 1) hx hb dL_law_1182 (by decide) ?_
  refine lv_iadd hx hb dL_law_1183 ?_
  rw [show nI (4 * k) + 1 = nI (4 * k + 1) from nI_add _ _]
  refine va_sld hx hb hX hbl hbA hI.2.1 (vp_in_nI (show 4 * k + 1 < N from by omega) (by omega)) dL_law_1184 ?_
  refine lv_aload_n hx hb dL_law_1185 rfl (lv_at hl 3 rfl) ?_
  obtain ⟨⟨⟨hkx, hkm, hkq, hkO, hkS, hkC, hkT⟩, ⟨hR, hO, hS9, hC, hT⟩, ⟨htM, htb⟩, lc, eC, nC, mC, cf, lt, eT, nT, mT, tf, hMo, hCo, hTh⟩, a0, a1, a2, a3, a4, a5, a6, a7⟩ := id hJ
  refine z_xi hI (vx_runSX (As := [.ref px, .int (xs (nI (4 * k + 1)).toNatClampNeg), .ref po]) (rest := []) ⟨hx, hb, hml, hown, hts⟩ (c_L_heat l hnt D tc z0 _ κ g _ px hkx (xs (nI (4 * k + 1)).toNatClampNeg) po hko aC hC) (vx_cwSW 3 hts gL_law_L_heat rfl rfl rfl (by decide +kernel) ⟨Nat.le_of_ble_eq_true rfl, Nat.le_of_ble_eq_true rfl⟩) (z_pre (Xc := []) hK hE hI [] rfl rfl) rfl rfl hl.1 rfl (lv_room (Nat.le_of_ble_eq_true rfl)) dL_law_1186 ⟨(show 60 + 20 * k + 37 * t + 1 ≤ 746514 from by omega), (show 400 + 120 * k + 162 * t + 6 ≤ 6862693 from by omega)⟩) (fun E ce q9 u H locs hw hI he1 he2 he3 => hw.elim) (fun v u H locs hw hI => ?_)
  have hn0 : nC = 0 := hCo.zero h0.1
  have hno : ∀ x, ¬ zHas g aC 6 x := fun x q => by obtain ⟨i9, hi9, -⟩ := (hCo.has hMo.bC (by decide)).mp q; omega
  rcases hw with ⟨rfl, r1, u1, v9, hp, hv9, hu⟩ | ⟨rfl, hp⟩
  · exact absurd hp.1 (hno _)
  · obtain ⟨⟨_, q1⟩, hp⟩ := hp
    cases hp
    refine lv_istore (lv' := [(6, .int 1), (0, .ref b), (1, .ref px), (2, .ref pm), (3, .ref po), (4, .ref pd), (5, .int (nI (4 * k)))]) hx hb dL_law_1189 hl (by decide) rfl (fun ls hl => ?_)
    refine lv_aload_n hx hb dL_law_1191 rfl (lv_at hl 3 rfl) ?_
    refine lv_aload_n hx hb dL_law_1192 rfl (lv_at hl 1 rfl) ?_
    refine lv_iload hx hb dL_law_1193 (lv_at hl 6 rfl) ?_
    refine lv_iconst (v := 1) hx hb dL_law_1195 (by decide) ?_
    refine lv_iadd hx hb dL_law_1196 ?_
    rw [show nI (4 * k) + 1 = nI (4 * k + 1) from nI_add _ _]
    refine va_sld hx hb hX hbl hbA hI.2.1 (vp_in_nI (show 4 * k + 1 < N from by omega) (by omega)) dL_law_1197 ?_
    refine z_ci hI (va_runV (As := [.int (xs (nI (4 * k + 1)).toNatClampNeg)]) (rest := []) ⟨hx, hb, hml, hown, hts⟩ (c_X11_heat l D tc z0 _ κ g _ pm hkm (xs (nI (4 * k + 1)).toNatClampNeg) lc eC nC mC cf lt eT nT mT tf hMo) (cwV 1 hts gL_law_X11_heat rfl rfl rfl (by decide +kernel) ⟨Nat.le_of_ble_eq_true rfl, Nat.le_of_ble_eq_true rfl⟩) (z_preV (Xc := []) hK hE hI [] rfl rfl (z_recv hK hI hkm rfl rfl)) rfl rfl hl.1 rfl (lv_room (Nat.le_of_ble_eq_true rfl)) dL_law_1198 ⟨(show 60 + 20 * k + 37 * t + 1 + 0 ≤ 746514 from by omega), (show 400 + 120 * k + 162 * t + 6 + 0 ≤ 6862693 from by omega)⟩) (fun w u H locs hw hI => ?_)
    obtain ⟨v8, hv8, rfl⟩ := hw
    obtain rfl : v8 = 1 := hv8 hn0
    have hJ : zJ κ (zup g pm 12 (.int 1)) z0 px pm rq co sp aC aT t := hJ.upM (by decide)
    have hI : zI D tc (zA [] [] s.heap.size) s.heap [] L κ (zup g pm 12 (.int 1)) H locs := hI
    have hcd : (zup g pm 12 (.int 1)) pm 12 = .int 1 := zup_self _ _ _ _
    generalize (zup g pm 12 (.int 1)) = g3 at hI hJ hcd
    refine lv_istore (lv' := [(7, .int w), (6, .int 1), (0, .ref b), (1, .ref px), (2, .ref pm), (3, .ref po), (4, .ref pd), (5, .int (nI (4 * k)))]) hx hb dL_law_1201 hl (by decide) rfl (fun ls hl => ?_)
    refine lv_aload_n hx hb dL_law_1203 rfl (lv_at hl 4 rfl) ?_
    refine z_ci hI (va_runV (As := []) (rest := []) ⟨hx, hb, hml, hown, hts⟩ (c_X11_thrown l D tc z0 _ κ g3 _ pm hkm) (cwV 0 hts gL_law_X11_thrown rfl rfl rfl (by decide +kernel) ⟨Nat.le_of_ble_eq_true rfl, Nat.le_of_ble_eq_true rfl⟩) (z_preV (Xc := []) hK hE hI [] rfl rfl (z_recv hK hI hkm rfl rfl)) rfl rfl hl.1 rfl (lv_room (Nat.le_of_ble_eq_true rfl)) dL_law_1204 ⟨(show 60 + 20 * k + 37 * t + 1 + 0 + 0 ≤ 746514 from by omega), (show 400 + 120 * k + 162 * t + 6 + 0 + 0 ≤ 6862693 from by omega)⟩) (fun w2 u H locs hw hI => ?_)
    obtain ⟨hw2, rfl⟩ := hw
    have hI : zI D tc (zA [] [] s.heap.size) s.heap [] L κ g3 H locs := hI
    obtain rfl : w2 = 1 := Value.int.inj (hw2.symm.trans hcd)
    refine lv_iload hx hb dL_law_1207 (lv_at hl 1 rfl) ?_
    refine lv_icmp_eq (tgt := 1214) hx hb dL_law_1209 (by decide) (fun _ => ?_) (fun hne => absurd rfl hne)
    refine lv_iload hx hb dL_law_1214 (lv_at hl 1 rfl) ?_
    refine lv_if_ne (tgt := 1231) hx hb dL_law_1216 (by decide) (fun _ => ?_) (fun h9 => absurd h9 (by decide))
    refine lv_goto (tgt := 2252) hx hb dL_law_1231 (by decide) ?_
    have hl := lv_sub hl [2, 3, 4, 5, 6, 7] (l' := [(0, .ref b), (1, .ref px), (2, .ref pm), (3, .ref po), (4, .ref pd), (5, .int (nI (4 * k)))]) rfl
    refine W.widen (k := 60 + 20 * (k + 1) + 37 * t) (n := 400 + 120 * (k + 1) + 162 * t) (by omega) (by omega) ?_
    refine W.base ?_
    exact hN s.drawn L κ g3 _ _ _ _ (Drawn.sameBut.refl _ _) hJ hko hkd hI hl

set_option maxHeartbeats 4000000 in
set_option maxRecDepth 100000 in
theorem k_degrees (l : Launch) (hnt : l.stackTraces = false) {p : Program} {e : Env} {s : State} {m : MethodId} {below : List Frame} {meth : Method} {c : Code} {H : Heap} {locs : List Loc} {Q : State → Prop} {D : va_G} {tc : Nat → ClassId} {z0 b N : Nat} {xs : Nat → Int32} {px pm po pd rq co sp aC aT t k : Nat} {L : List Nat} {κ : Nat → Nat} {g : Nat → Nat → Value} {ls : Array Slot} (C : lwC p s m meth c b N xs D tc z0) (hk : 4 * k + 4 ≤ N) (hN8 : N ≤ 2048) (hJ : zJ κ g z0 px pm rq co sp aC aT t) (h0 : (∀ j, g aC j = .null) ∧ ∀ j, g aT j = .null) (hko : κ po = 29) (hkd : κ pd = 30) (hI : zI D tc (zA [] [] s.heap.size) s.heap [] L κ g H locs) (hl : lv_has ls 9 [(0, .ref b), (1, .ref px), (2, .ref pm), (3, .ref po), (4, .ref pd), (5, .int (nI (4 * k)))]) (hN : lwN p l e s m below meth c b D tc z0 px pm po pd rq co sp aC aT k Q) : W p l e room_1 s m #[Value.ref b] below meth c H locs (60 + 20 * k + 37 * t) (400 + 120 * k + 162 * t) Q (F0 m 1234 ls []) := by
  obtain ⟨hx, hb, hml, hown, hts, hK, hE, hX, hbl⟩ := C
  have hbA : ¬ zA [] [] s.heap.size b := fun q => by rcases q with q | q | q; exact absurd q List.not_mem_nil; exact absurd q List.not_mem_nil; exact absurd hbl (Nat.not_lt.mpr q)
  have htb9 : t ≤ 9999 := hJ.1.2.2.1.2
  refine lv_aload_n hx hb dL_law_1234 rfl (lv_at hl 1 rfl) ?_
  refine lv_aload_n hx hb dL_law_1235 rfl (lv_at hl 0 rfl) ?_
  refine lv_iload hx hb dL_law_1236 (lv_at hl 5 rfl) ?_
  refine lv_iconst (v := 1) hx hb dL_law_1238 (by decide) ?_
  refine lv_iadd hx hb dL_law_1239 ?_
  rw [show nI (4 * k) + 1 = nI (4 * k + 1) from nI_add _ _]
  refine va_sld hx hb hX hbl hbA hI.2.1 (vp_in_nI (show 4 * k + 1 < N from by omega) (by omega)) dL_law_1240 ?_
  refine lv_aload_n hx hb dL_law_1241 rfl (lv_at hl 3 rfl) ?_
  obtain ⟨⟨⟨hkx, hkm, hkq, hkO, hkS, hkC, hkT⟩, ⟨hR, hO, hS9, hC, hT⟩, ⟨htM, htb⟩, lc, eC, nC, mC, cf, lt, eT, nT, mT, tf, hMo, hCo, hTh⟩, a0, a1, a2, a3, a4, a5, a6, a7⟩ := id hJ
  refine z_xi hI (vx_runSX (As := [.ref px, .int (xs (nI (4 * k + 1)).toNatClampNeg), .ref po]) (rest := []) ⟨hx, hb, hml, hown, hts⟩ (c_L_degrees l hnt D tc z0 _ κ g _ px hkx (xs (nI (4 * k + 1)).toNatClampNeg) po hko aC hC) (vx_cwSW 3 hts gL_law_L_degrees rfl rfl rfl (by decide +kernel) ⟨Nat.le_of_ble_eq_true rfl, Nat.le_of_ble_eq_true rfl⟩) (z_pre (Xc := []) hK hE hI [] rfl rfl) rfl rfl hl.1 rfl (lv_room (Nat.le_of_ble_eq_true rfl)) dL_law_1242 ⟨(show 60 + 20 * k + 37 * t + 1 ≤ 746514 from by omega), (show 400 + 120 * k + 162 * t + 6 ≤ 6862693 from by omega)⟩) (fun E ce q9 u H locs hw hI he1 he2 he3 => hw.elim) (fun v u H locs hw hI => ?_)
  have hn0 : nC = 0 := hCo.zero h0.1
  have hno : ∀ x, ¬ zHas g aC 6 x := fun x q => by obtain ⟨i9, hi9, -⟩ := (hCo.has hMo.bC (by decide)).mp q; omega
  rcases hw with ⟨rfl, r1, u1, v9, hp, hv9, hu⟩ | ⟨rfl, hp⟩
  · exact absurd hp.1 (hno _)
  · obtain ⟨⟨_, q1⟩, hp⟩ := hp
    cases hp
    refine lv_istore (lv' := [(6, .int 1), (0, .ref b), (1, .ref px), (2, .ref pm), (3, .ref po), (4, .ref pd), (5, .int (nI (4 * k)))]) hx hb dL_law_1245 hl (by decide) rfl (fun ls hl => ?_)
    refine lv_aload_n hx hb dL_law_1247 rfl (lv_at hl 3 rfl) ?_
    refine lv_aload_n hx hb dL_law_1248 rfl (lv_at hl 1 rfl) ?_
    refine lv_iload hx hb dL_law_1249 (lv_at hl 6 rfl) ?_
    refine lv_iconst (v := 1) hx hb dL_law_1251 (by decide) ?_
    refine lv_iadd hx hb dL_law_1252 ?_
    rw [show nI (4 * k) + 1 = nI (4 * k + 1) from nI_add _ _]
    refine va_sld hx hb hX hbl hbA hI.2.1 (vp_in_nI (show 4 * k + 1 < N from by omega) (by omega)) dL_law_1253 ?_
    refine z_ci hI (va_runV (As := [.int (xs (nI (4 * k + 1)).toNatClampNeg)]) (rest := []) ⟨hx, hb, hml, hown, hts⟩ (c_X11_degrees l D tc z0 _ κ g _ pm hkm (xs (nI (4 * k + 1)).toNatClampNeg) lc eC nC mC cf lt eT nT mT tf hMo) (cwV 1 hts gL_law_X11_degrees rfl rfl rfl (by decide +kernel) ⟨Nat.le_of_ble_eq_true rfl, Nat.le_of_ble_eq_true rfl⟩) (z_preV (Xc := []) hK hE hI [] rfl rfl (z_recv hK hI hkm rfl rfl)) rfl rfl hl.1 rfl (lv_room (Nat.le_of_ble_eq_true rfl)) dL_law_1254 ⟨(show 60 + 20 * k + 37 * t + 1 + 0 ≤ 746514 from by omega), (show 400 + 120 * k + 162 * t + 6 + 0 ≤ 6862693 from by omega)⟩) (fun w u H locs hw hI => ?_)
    obtain ⟨v8, hv8, rfl⟩ := hw
    obtain rfl : v8 = 1 := hv8 hn0
    have hJ : zJ κ (zup g pm 12 (.int 1)) z0 px pm rq co sp aC aT t := hJ.upM (by decide)
    have hI : zI D tc (zA [] [] s.heap.size) s.heap [] L κ (zup g pm 12 (.int 1)) H locs := hI
    have hcd : (zup g pm 12 (.int 1)) pm 12 = .int 1 := zup_self _ _ _ _
    generalize (zup g pm 12 (.int 1)) = g3 at hI hJ hcd
    refine lv_istore (lv' := [(7, .int w), (6, .int 1), (0, .ref b), (1, .ref px), (2, .ref pm), (3, .ref po), (4, .ref pd), (5, .int (nI (4 * k)))]) hx hb dL_law_1257 hl (by decide) rfl (fun ls hl => ?_)
    refine lv_aload_n hx hb dL_law_1259 rfl (lv_at hl 4 rfl) ?_
    refine z_ci hI (va_runV (As := []) (rest := []) ⟨hx, hb, hml, hown, hts⟩ (c_X11_thrown l D tc z0 _ κ g3 _ pm hkm) (cwV 0 hts gL_law_X11_thrown rfl rfl rfl (by decide +kernel) ⟨Nat.le_of_ble_eq_true rfl, Nat.le_of_ble_eq_true rfl⟩) (z_preV (Xc := []) hK hE hI [] rfl rfl (z_recv hK hI hkm rfl rfl)) rfl rfl hl.1 rfl (lv_room (Nat.le_of_ble_eq_true rfl)) dL_law_1260 ⟨(show 60 + 20 * k + 37 * t + 1 + 0 + 0 ≤ 746514 from by omega), (show 400 + 120 * k + 162 * t + 6 + 0 + 0 ≤ 6862693 from by omega)⟩) (fun w2 u H locs hw hI => ?_)
    obtain ⟨hw2, rfl⟩ := hw
    have hI : zI D tc (zA [] [] s.heap.size) s.heap [] L κ g3 H locs := hI
    obtain rfl : w2 = 1 := Value.int.inj (hw2.symm.trans hcd)
    refine lv_iload hx hb dL_law_1263 (lv_at hl 1 rfl) ?_
    refine lv_icmp_eq (tgt := 1270) hx hb dL_law_1265 (by decide) (fun _ => ?_) (fun hne => absurd rfl hne)
    refine lv_iload hx hb dL_law_1270 (lv_at hl 1 rfl) ?_
    refine lv_if_ne (tgt := 1287) hx hb dL_law_1272 (by decide) (fun _ => ?_) (fun h9 => absurd h9 (by decide))
    refine lv_goto (tgt := 2252) hx hb dL_law_1287 (by decide) ?_
    have hl := lv_sub hl [2, 3, 4, 5, 6, 7] (l' := [(0, .ref b), (1, .ref px), (2, .ref pm), (3, .ref po), (4, .ref pd), (5, .int (nI (4 * k)))]) rfl
    refine W.widen (k := 60 + 20 * (k + 1) + 37 * t) (n := 400 + 120 * (k + 1) + 162 * t) (by omega) (by omega) ?_
    refine W.base ?_
    exact hN s.drawn L κ g3 _ _ _ _ (Drawn.sameBut.refl _ _) hJ hko hkd hI hl

set_option maxHeartbeats 4000000 in
set_option maxRecDepth 100000 in
theorem k_sensor (l : Launch) (hnt : l.stackTraces = false) {p : Program} {e : Env} {s : State} {m : MethodId} {below : List Frame} {meth : Method} {c : Code} {H : Heap} {locs : List Loc} {Q : State → Prop} {D : va_G} {tc : Nat → ClassId} {z0 b N : Nat} {xs : Nat → Int32} {px pm po pd rq co sp aC aT t k : Nat} {L : List Nat} {κ : Nat → Nat} {g : Nat → Nat → Value} {ls : Array Slot} (C : lwC p s m meth c b N xs D tc z0) (hk : 4 * k + 4 ≤ N) (hN8 : N ≤ 2048) (hJ : zJ κ g z0 px pm rq co sp aC aT t) (h0 : (∀ j, g aC j = .null) ∧ ∀ j, g aT j = .null) (hko : κ po = 29) (hkd : κ pd = 30) (hI : zI D tc (zA [] [] s.heap.size) s.heap [] L κ g H locs) (hl : lv_has ls 9 [(0, .ref b), (1, .ref px), (2, .ref pm), (3, .ref po), (4, .ref pd), (5, .int (nI (4 * k)))]) (hN : lwN p l e s m below meth c b D tc z0 px pm po pd rq co sp aC aT k Q) : W p l e room_1 s m #[Value.ref b] below meth c H locs (60 + 20 * k + 37 * t) (400 + 120 * k + 162 * t) Q (F0 m 1303 ls []) := by
  obtain ⟨hx, hb, hml, hown, hts, hK, hE, hX, hbl⟩ := C
  have hbA : ¬ zA [] [] s.heap.size b := fun q => by rcases q with q | q | q; exact absurd q List.not_mem_nil; exact absurd q List.not_mem_nil; exact absurd hbl (Nat.not_lt.mpr q)
  have htb9 : t ≤ 9999 := hJ.1.2.2.1.2
  refine lv_aload_n hx hb dL_law_1303 rfl (lv_at hl 1 rfl) ?_
  refine lv_aload_n hx hb dL_law_1304 rfl (lv_at hl 0 rfl) ?_
  refine lv_iload hx hb dL_law_1305 (lv_at hl 5 rfl) ?_
  refine lv_iconst (v := 1) hx hb dL_law_1307 (by decide) ?_
  refine lv_iadd hx hb dL_law_1308 ?_
  rw [show nI (4 * k) + 1 = nI (4 * k + 1) from nI_add _ _]
  refine va_sld hx hb hX hbl hbA hI.2.1 (vp_in_nI (show 4 * k + 1 < N from by omega) (by omega)) dL_law_1309 ?_
  refine lv_aload_n hx hb dL_law_1310 rfl (lv_at hl 3 rfl) ?_
  obtain ⟨⟨⟨hkx, hkm, hkq, hkO, hkS, hkC, hkT⟩, ⟨hR, hO, hS9, hC, hT⟩, ⟨htM, htb⟩, lc, eC, nC, mC, cf, lt, eT, nT, mT, tf, hMo, hCo, hTh⟩, a0, a1, a2, a3, a4, a5, a6, a7⟩ := id hJ
  refine z_xi hI (vx_runSX (As := [.ref px, .int (xs (nI (4 * k + 1)).toNatClampNeg), .ref po]) (rest := []) ⟨hx, hb, hml, hown, hts⟩ (c_L_sensor l hnt D tc z0 _ κ g _ px hkx (xs (nI (4 * k + 1)).toNatClampNeg) po hko aC hC) (vx_cwSW 3 hts gL_law_L_sensor rfl rfl rfl (by decide +kernel) ⟨Nat.le_of_ble_eq_true rfl, Nat.le_of_ble_eq_true rfl⟩) (z_pre (Xc := []) hK hE hI [] rfl rfl) rfl rfl hl.1 rfl (lv_room (Nat.le_of_ble_eq_true rfl)) dL_law_1311 ⟨(show 60 + 20 * k + 37 * t + 2 ≤ 746514 from by omega), (show 400 + 120 * k + 162 * t + 12 ≤ 6862693 from by omega)⟩) (fun E ce q9 u H locs hw hI he1 he2 he3 => hw.elim) (fun v u H locs hw hI => ?_)
  have hn0 : nC = 0 := hCo.zero h0.1
  have hno : ∀ x, ¬ zHas g aC 6 x := fun x q => by obtain ⟨i9, hi9, -⟩ := (hCo.has hMo.bC (by decide)).mp q; omega
  rcases hw with ⟨rfl, r1, u1, v9, hp, hv9, hu⟩ | ⟨rfl, hp⟩ | ⟨rfl, hp⟩
  · exact absurd hp.1 (hno _)
  · rcases hp with ⟨⟨_, q1⟩ | ⟨q0, _⟩, hp⟩
    · cases hp
      refine lv_istore (lv' := [(6, .int 1), (0, .ref b), (1, .ref px), (2, .ref pm), (3, .ref po), (4, .ref pd), (5, .int (nI (4 * k)))]) hx hb dL_law_1314 hl (by decide) rfl (fun ls hl => ?_)
      refine lv_aload_n hx hb dL_law_1316 rfl (lv_at hl 3 rfl) ?_
      refine lv_aload_n hx hb dL_law_1317 rfl (lv_at hl 1 rfl) ?_
      refine lv_iload hx hb dL_law_1318 (lv_at hl 6 rfl) ?_
      refine lv_iconst (v := 1) hx hb dL_law_1320 (by decide) ?_
      refine lv_iadd hx hb dL_law_1321 ?_
      rw [show nI (4 * k) + 1 = nI (4 * k + 1) from nI_add _ _]
      refine va_sld hx hb hX hbl hbA hI.2.1 (vp_in_nI (show 4 * k + 1 < N from by omega) (by omega)) dL_law_1322 ?_
      refine z_ci hI (va_runV (As := [.int (xs (nI (4 * k + 1)).toNatClampNeg)]) (rest := []) ⟨hx, hb, hml, hown, hts⟩ (c_X11_sensor l D tc z0 _ κ g _ pm hkm (xs (nI (4 * k + 1)).toNatClampNeg) lc eC nC mC cf lt eT nT mT tf hMo) (cwV 1 hts gL_law_X11_sensor rfl rfl rfl (by decide +kernel) ⟨Nat.le_of_ble_eq_true rfl, Nat.le_of_ble_eq_true rfl⟩) (z_preV (Xc := []) hK hE hI [] rfl rfl (z_recv hK hI hkm rfl rfl)) rfl rfl hl.1 rfl (lv_room (Nat.le_of_ble_eq_true rfl)) dL_law_1323 ⟨(show 60 + 20 * k + 37 * t + 2 + 0 ≤ 746514 from by omega), (show 400 + 120 * k + 162 * t + 12 + 0 ≤ 6862693 from by omega)⟩) (fun w u H locs hw hI => ?_)
      obtain ⟨v8, hv8, rfl⟩ := hw
      obtain rfl : v8 = 1 := hv8 hn0
      have hJ : zJ κ (zup g pm 12 (.int 1)) z0 px pm rq co sp aC aT t := hJ.upM (by decide)
      have hI : zI D tc (zA [] [] s.heap.size) s.heap [] L κ (zup g pm 12 (.int 1)) H locs := hI
      have hcd : (zup g pm 12 (.int 1)) pm 12 = .int 1 := zup_self _ _ _ _
      generalize (zup g pm 12 (.int 1)) = g3 at hI hJ hcd
      refine lv_istore (lv' := [(7, .int w), (6, .int 1), (0, .ref b), (1, .ref px), (2, .ref pm), (3, .ref po), (4, .ref pd), (5, .int (nI (4 * k)))]) hx hb dL_law_1326 hl (by decide) rfl (fun ls hl => ?_)
      refine lv_aload_n hx hb dL_law_1328 rfl (lv_at hl 4 rfl) ?_
      refine z_ci hI (va_runV (As := []) (rest := []) ⟨hx, hb, hml, hown, hts⟩ (c_X11_thrown l D tc z0 _ κ g3 _ pm hkm) (cwV 0 hts gL_law_X11_thrown rfl rfl rfl (by decide +kernel) ⟨Nat.le_of_ble_eq_true rfl, Nat.le_of_ble_eq_true rfl⟩) (z_preV (Xc := []) hK hE hI [] rfl rfl (z_recv hK hI hkm rfl rfl)) rfl rfl hl.1 rfl (lv_room (Nat.le_of_ble_eq_true rfl)) dL_law_1329 ⟨(show 60 + 20 * k + 37 * t + 2 + 0 + 0 ≤ 746514 from by omega), (show 400 + 120 * k + 162 * t + 12 + 0 + 0 ≤ 6862693 from by omega)⟩) (fun w2 u H locs hw hI => ?_)
      obtain ⟨hw2, rfl⟩ := hw
      have hI : zI D tc (zA [] [] s.heap.size) s.heap [] L κ g3 H locs := hI
      obtain rfl : w2 = 1 := Value.int.inj (hw2.symm.trans hcd)
      refine lv_iload hx hb dL_law_1332 (lv_at hl 1 rfl) ?_
      refine lv_icmp_eq (tgt := 1339) hx hb dL_law_1334 (by decide) (fun _ => ?_) (fun hne => absurd rfl hne)
      refine lv_iload hx hb dL_law_1339 (lv_at hl 1 rfl) ?_
      refine lv_if_ne (tgt := 1356) hx hb dL_law_1341 (by decide) (fun _ => ?_) (fun h9 => absurd h9 (by decide))
      refine lv_goto (tgt := 2252) hx hb dL_law_1356 (by decide) ?_
      have hl := lv_sub hl [2, 3, 4, 5, 6, 7] (l' := [(0, .ref b), (1, .ref px), (2, .ref pm), (3, .ref po), (4, .ref pd), (5, .int (nI (4 * k)))]) rfl
      refine W.widen (k := 60 + 20 * (k + 1) + 37 * t) (n := 400 + 120 * (k + 1) + 162 * t) (by omega) (by omega) ?_
      refine W.base ?_
      exact hN s.drawn L κ g3 _ _ _ _ (Drawn.sameBut.refl _ _) hJ hko hkd hI hl
    · exact absurd q0 (by decide)
  · rcases hp with ⟨⟨q0, _⟩ | ⟨_, q1⟩, hp⟩
    · exact absurd q0 (by decide)
    · exact absurd q1 (hno _)

set_option maxHeartbeats 4000000 in
set_option maxRecDepth 100000 in
theorem k_lose (l : Launch) (hnt : l.stackTraces = false) {p : Program} {e : Env} {s : State} {m : MethodId} {below : List Frame} {meth : Method} {c : Code} {H : Heap} {locs : List Loc} {Q : State → Prop} {D : va_G} {tc : Nat → ClassId} {z0 b N : Nat} {xs : Nat → Int32} {px pm po pd rq co sp aC aT t k : Nat} {L : List Nat} {κ : Nat → Nat} {g : Nat → Nat → Value} {ls : Array Slot} (C : lwC p s m meth c b N xs D tc z0) (hk : 4 * k + 4 ≤ N) (hN8 : N ≤ 2048) (hJ : zJ κ g z0 px pm rq co sp aC aT t) (h0 : (∀ j, g aC j = .null) ∧ ∀ j, g aT j = .null) (hko : κ po = 29) (hkd : κ pd = 30) (hI : zI D tc (zA [] [] s.heap.size) s.heap [] L κ g H locs) (hl : lv_has ls 9 [(0, .ref b), (1, .ref px), (2, .ref pm), (3, .ref po), (4, .ref pd), (5, .int (nI (4 * k)))]) (hN : lwN p l e s m below meth c b D tc z0 px pm po pd rq co sp aC aT k Q) : W p l e room_1 s m #[Value.ref b] below meth c H locs (60 + 20 * k + 37 * t) (400 + 120 * k + 162 * t) Q (F0 m 1359 ls []) := by
  obtain ⟨hx, hb, hml, hown, hts, hK, hE, hX, hbl⟩ := C
  have hbA : ¬ zA [] [] s.heap.size b := fun q => by rcases q with q | q | q; exact absurd q List.not_mem_nil; exact absurd q List.not_mem_nil; exact absurd hbl (Nat.not_lt.mpr q)
  have htb9 : t ≤ 9999 := hJ.1.2.2.1.2
  refine lv_aload_n hx hb dL_law_1359 rfl (lv_at hl 1 rfl) ?_
  refine lv_aload_n hx hb dL_law_1360 rfl (lv_at hl 0 rfl) ?_
  refine lv_iload hx hb dL_law_1361 (lv_at hl 5 rfl) ?_
  refine lv_iconst (v := 1) hx hb dL_law_1363 (by decide) ?_
  refine lv_iadd hx hb dL_law_1364 ?_
  rw [show nI (4 * k) + 1 = nI (4 * k + 1) from nI_add _ _]
  refine va_sld hx hb hX hbl hbA hI.2.1 (vp_in_nI (show 4 * k + 1 < N from by omega) (by omega)) dL_law_1365 ?_
  refine lv_aload_n hx hb dL_law_1366 rfl (lv_at hl 0 rfl) ?_
  refine lv_iload hx hb dL_law_1367 (lv_at hl 5 rfl) ?_
  refine lv_iconst (v := 2) hx hb dL_law_1369 (by decide) ?_
  refine lv_iadd hx hb dL_law_1370 ?_
  rw [show nI (4 * k) + 2 = nI (4 * k + 2) from nI_add _ _]
  refine va_sld hx hb hX hbl hbA hI.2.1 (vp_in_nI (show 4 * k + 2 < N from by omega) (by omega)) dL_law_1371 ?_
  refine lv_if_eq (tgt := 1379) hx hb dL_law_1372 (by decide) (fun cb => ?_) (fun cb => ?_)
  · skip
    refine lv_iconst (v := 0) hx hb dL_law_1379 (by decide) ?_
    refine lv_aload_n hx hb dL_law_1380 rfl (lv_at hl 3 rfl) ?_
    obtain ⟨⟨⟨hkx, hkm, hkq, hkO, hkS, hkC, hkT⟩, ⟨hR, hO, hS9, hC, hT⟩, ⟨htM, htb⟩, lc, eC, nC, mC, cf, lt, eT, nT, mT, tf, hMo, hCo, hTh⟩, a0, a1, a2, a3, a4, a5, a6, a7⟩ := id hJ
    refine z_xi hI (vx_runSX (As := [.ref px, .int (xs (nI (4 * k + 1)).toNatClampNeg), .int 0, .ref po]) (rest := []) ⟨hx, hb, hml, hown, hts⟩ (c_L_lose l hnt D tc z0 _ κ g _ px hkx (xs (nI (4 * k + 1)).toNatClampNeg) 0 (Or.inl rfl) po hko aC hC) (vx_cwSW 4 hts gL_law_L_lose rfl rfl rfl (by decide +kernel) ⟨Nat.le_of_ble_eq_true rfl, Nat.le_of_ble_eq_true rfl⟩) (z_pre (Xc := []) hK hE hI [] rfl rfl) rfl rfl hl.1 rfl (lv_room (Nat.le_of_ble_eq_true rfl)) dL_law_1381 ⟨(show 60 + 20 * k + 37 * t + 1 ≤ 746514 from by omega), (show 400 + 120 * k + 162 * t + 6 ≤ 6862693 from by omega)⟩) (fun E ce q9 u H locs hw hI he1 he2 he3 => hw.elim) (fun v u H locs hw hI => ?_)
    have hbC := hMo.bC
    have hbT := hMo.bT
    rcases hw with ⟨rfl, r1, u1, v9, hp, hv9, hu⟩ | ⟨rfl, hp⟩
    · obtain ⟨a, hka, q1, q2, q4, qb, hp⟩ := hp
      cases hp
      cases hu
      obtain ⟨i9, hi9, hx9⟩ : ∃ i9, i9 < nC ∧ ((xs (nI (4 * k + 1)).toNatClampNeg)) = nI i9 := (hCo.has hMo.bC (by decide)).mp ⟨q1, _, q2⟩
      rw [hx9] at q2
      obtain ⟨hia, -, hkc, hps⟩ := hCo.nth hMo.bC (by decide) hi9 q2
      rcases qb with rfl | rfl
      · have hv9 : v9 = 0 := by simpa using hv9
        have hM1 : zMo κ (zup (zup g a 17 (.int 0)) po 0 (.long v9)) z0 pm lc eC nC mC cf lt eT nT mT tf := (hMo.upO hka (by decide)).upO hko (by decide)
        have hI : zI D tc (zA [] [] s.heap.size) s.heap [] L κ (zup (zup g a 17 (.int 0)) po 0 (.long v9)) H locs := hI
        obtain ⟨g1, hg1⟩ : ∃ x, x = (zup (zup g a 17 (.int 0)) po 0 (.long v9)) := ⟨_, rfl⟩
        rw [← hg1] at hI hM1
        refine lv_istore (lv' := [(6, .int 0), (0, .ref b), (1, .ref px), (2, .ref pm), (3, .ref po), (4, .ref pd), (5, .int (nI (4 * k)))]) hx hb dL_law_1384 hl (by decide) rfl (fun ls hl => ?_)
        refine lv_aload_n hx hb dL_law_1386 rfl (lv_at hl 3 rfl) ?_
        refine lv_aload_n hx hb dL_law_1387 rfl (lv_at hl 1 rfl) ?_
        refine lv_iload hx hb dL_law_1388 (lv_at hl 6 rfl) ?_
        refine lv_iconst (v := 1) hx hb dL_law_1390 (by decide) ?_
        refine lv_iadd hx hb dL_law_1391 ?_
        rw [show nI (4 * k) + 1 = nI (4 * k + 1) from nI_add _ _]
        refine va_sld hx hb hX hbl hbA hI.2.1 (vp_in_nI (show 4 * k + 1 < N from by omega) (by omega)) dL_law_1392 ?_
        refine lv_aload_n hx hb dL_law_1393 rfl (lv_at hl 1 rfl) ?_
        refine lv_iload hx hb dL_law_1394 (lv_at hl 6 rfl) ?_
        refine lv_iconst (v := 2) hx hb dL_law_1396 (by decide) ?_
        refine lv_iadd hx hb dL_law_1397 ?_
        rw [show nI (4 * k) + 2 = nI (4 * k + 2) from nI_add _ _]
        refine va_sld hx hb hX hbl hbA hI.2.1 (vp_in_nI (show 4 * k + 2 < N from by omega) (by omega)) dL_law_1398 ?_
        refine lv_if_eq (tgt := 1406) hx hb dL_law_1399 (by decide) (fun _ => ?_) (fun q => absurd cb q)
        refine lv_iconst (v := 0) hx hb dL_law_1406 (by decide) ?_
        refine z_ci hI (va_runV (As := [.int (xs (nI (4 * k + 1)).toNatClampNeg), .int 0]) (rest := []) ⟨hx, hb, hml, hown, hts⟩ (c_X11_lose l D tc z0 _ κ g1 _ pm hkm (xs (nI (4 * k + 1)).toNatClampNeg) 0 (Or.inl rfl) lc eC nC mC cf lt eT nT mT tf hM1) (cwV 2 hts gL_law_X11_lose rfl rfl rfl (by decide +kernel) ⟨Nat.le_of_ble_eq_true rfl, Nat.le_of_ble_eq_true rfl⟩) (z_preV (Xc := []) hK hE hI [] rfl rfl (z_recv hK hI hkm rfl rfl)) rfl rfl hl.1 rfl (lv_room (Nat.le_of_ble_eq_true rfl)) dL_law_1407 ⟨(show 60 + 20 * k + 37 * t + 1 + 0 ≤ 746514 from by omega), (show 400 + 120 * k + 162 * t + 6 + 0 ≤ 6862693 from by omega)⟩) (fun w u H locs hw hI => ?_)
        rcases hw with ⟨w0, hno, hu⟩ | ⟨i8, hi8, hx8, w3, w4, hu⟩
        · exact absurd hx9 (hno i9 hi9)
        · have e8 : i8 = i9 := (nI_eq (by omega) (by omega)).mp (hx8.symm.trans hx9)
          rw [e8] at w3 hu
          cases hu
          have hgc : g1 (cf i9) 15 = g (cf i9) 15 := by rw [hg1]; exact (zup_a (z_apart hkc hko (by decide))).trans (zup_a (z_apart hkc hka (by decide)))
          have hrw : 0 = w := Value.int.inj (q4.symm.trans ((hps (17, 15) (by decide)).trans (hgc.symm.trans w3)))
          obtain rfl : w = 0 := hrw.symm
          rw [hg1] at hI
          have hJ : zJ κ (zup (zup (zup (zup g a 17 (.int 0)) po 0 (.long v9)) pm 12 (.int 0)) (cf i9) 15 (.int 0)) z0 px pm rq co sp aC aT t := zJ.setC hJ hMo hCo hTh hi9 hia hka hkc hko (by decide)
          have hI : zI D tc (zA [] [] s.heap.size) s.heap [] L κ (zup (zup (zup (zup g a 17 (.int 0)) po 0 (.long v9)) pm 12 (.int 0)) (cf i9) 15 (.int 0)) H locs := hI
          have hcd : (zup (zup (zup (zup g a 17 (.int 0)) po 0 (.long v9)) pm 12 (.int 0)) (cf i9) 15 (.int 0)) pm 12 = .int 0 := (zup_a (z_apart hkm hkc (by decide))).trans (zup_self _ _ _ _)
          have hpo : (zup (zup (zup (zup g a 17 (.int 0)) po 0 (.long v9)) pm 12 (.int 0)) (cf i9) 15 (.int 0)) po 0 = .long v9 := ((zup_a (z_apart hko hkc (by decide))).trans (zup_a (z_apart hko hkm (by decide)))).trans (zup_self _ _ _ _)
          generalize (zup (zup (zup (zup g a 17 (.int 0)) po 0 (.long v9)) pm 12 (.int 0)) (cf i9) 15 (.int 0)) = g3 at hI hJ hcd hpo
          refine lv_istore (lv' := [(7, .int 0), (6, .int 0), (0, .ref b), (1, .ref px), (2, .ref pm), (3, .ref po), (4, .ref pd), (5, .int (nI (4 * k)))]) hx hb dL_law_1410 hl (by decide) rfl (fun ls hl => ?_)
          refine lv_aload_n hx hb dL_law_1412 rfl (lv_at hl 4 rfl) ?_
          refine z_ci hI (va_runV (As := []) (rest := []) ⟨hx, hb, hml, hown, hts⟩ (c_X11_thrown l D tc z0 _ κ g3 _ pm hkm) (cwV 0 hts gL_law_X11_thrown rfl rfl rfl (by decide +kernel) ⟨Nat.le_of_ble_eq_true rfl, Nat.le_of_ble_eq_true rfl⟩) (z_preV (Xc := []) hK hE hI [] rfl rfl (z_recv hK hI hkm rfl rfl)) rfl rfl hl.1 rfl (lv_room (Nat.le_of_ble_eq_true rfl)) dL_law_1413 ⟨(show 60 + 20 * k + 37 * t + 1 + 0 + 0 ≤ 746514 from by omega), (show 400 + 120 * k + 162 * t + 6 + 0 + 0 ≤ 6862693 from by omega)⟩) (fun w2 u H locs hw hI => ?_)
          obtain ⟨hw2, rfl⟩ := hw
          have hI : zI D tc (zA [] [] s.heap.size) s.heap [] L κ g3 H locs := hI
          obtain rfl : w2 = 0 := Value.int.inj (hw2.symm.trans hcd)
          refine lv_iload hx hb dL_law_1416 (lv_at hl 1 rfl) ?_
          refine lv_icmp_eq (tgt := 1423) hx hb dL_law_1418 (by decide) (fun _ => ?_) (fun hne => absurd rfl hne)
          refine lv_iload hx hb dL_law_1423 (lv_at hl 1 rfl) ?_
          refine lv_if_ne (tgt := 1447) hx hb dL_law_1425 (by decide) (fun h9 => absurd rfl h9) (fun _ => ?_)
          refine lv_aload_n hx hb dL_law_1428 rfl (lv_at hl 5 rfl) ?_
          refine lv_iconst (v := 0) hx hb dL_law_1429 (by decide) ?_
          have hM : zM p s m c cL_law #[Value.ref b] wsL_law RL D tc := ⟨hx, hb, hts, hown, hK⟩
          refine z_lald hM hI hko rfl rfl (vp_in_c 0 1 (by decide)) dL_law_1430 (fun x9 hx9 => ?_)
          obtain ⟨hx9, -⟩ := hx9
          rw [show x9 = v9 from Value.long.inj (hx9.trans hpo)]
          refine lv_iload hx hb dL_law_1431 (lv_at hl 0 rfl) ?_
          refine lv_if_eq (tgt := 1440) hx hb dL_law_1433 (by decide) (fun _ => ?_) (fun h9 => absurd rfl h9)
          refine lv_lconst (v := 0) hx hb dL_law_1440 (by decide) ?_
          refine W.lcmp hx hb dL_law_1441 ?_
          rw [show lg_cmp v9 _ = 0 from by rw [hv9]; simp [lg_cmp]]
          refine lv_if_eq (tgt := 1447) hx hb dL_law_1442 (by decide) (fun _ => ?_) (fun h9 => absurd rfl h9)
          refine lv_goto (tgt := 2252) hx hb dL_law_1447 (by decide) ?_
          have hl := lv_sub hl [2, 3, 4, 5, 6, 7] (l' := [(0, .ref b), (1, .ref px), (2, .ref pm), (3, .ref po), (4, .ref pd), (5, .int (nI (4 * k)))]) rfl
          refine W.widen (k := 60 + 20 * (k + 1) + 37 * t) (n := 400 + 120 * (k + 1) + 162 * t) (by omega) (by omega) ?_
          refine W.base ?_
          exact hN s.drawn L κ g3 _ _ _ _ (Drawn.sameBut.refl _ _) hJ hko hkd hI hl
      · have hv9 : v9 = 1 := by simpa using hv9
        have hM1 : zMo κ (zup (zup g a 17 (.int 0)) po 0 (.long v9)) z0 pm lc eC nC mC cf lt eT nT mT tf := (hMo.upO hka (by decide)).upO hko (by decide)
        have hI : zI D tc (zA [] [] s.heap.size) s.heap [] L κ (zup (zup g a 17 (.int 0)) po 0 (.long v9)) H locs := hI
        obtain ⟨g1, hg1⟩ : ∃ x, x = (zup (zup g a 17 (.int 0)) po 0 (.long v9)) := ⟨_, rfl⟩
        rw [← hg1] at hI hM1
        refine lv_istore (lv' := [(6, .int 0), (0, .ref b), (1, .ref px), (2, .ref pm), (3, .ref po), (4, .ref pd), (5, .int (nI (4 * k)))]) hx hb dL_law_1384 hl (by decide) rfl (fun ls hl => ?_)
        refine lv_aload_n hx hb dL_law_1386 rfl (lv_at hl 3 rfl) ?_
        refine lv_aload_n hx hb dL_law_1387 rfl (lv_at hl 1 rfl) ?_
        refine lv_iload hx hb dL_law_1388 (lv_at hl 6 rfl) ?_
        refine lv_iconst (v := 1) hx hb dL_law_1390 (by decide) ?_
        refine lv_iadd hx hb dL_law_1391 ?_
        rw [show nI (4 * k) + 1 = nI (4 * k + 1) from nI_add _ _]
        refine va_sld hx hb hX hbl hbA hI.2.1 (vp_in_nI (show 4 * k + 1 < N from by omega) (by omega)) dL_law_1392 ?_
        refine lv_aload_n hx hb dL_law_1393 rfl (lv_at hl 1 rfl) ?_
        refine lv_iload hx hb dL_law_1394 (lv_at hl 6 rfl) ?_
        refine lv_iconst (v := 2) hx hb dL_law_1396 (by decide) ?_
        refine lv_iadd hx hb dL_law_1397 ?_
        rw [show nI (4 * k) + 2 = nI (4 * k + 2) from nI_add _ _]
        refine va_sld hx hb hX hbl hbA hI.2.1 (vp_in_nI (show 4 * k + 2 < N from by omega) (by omega)) dL_law_1398 ?_
        refine lv_if_eq (tgt := 1406) hx hb dL_law_1399 (by decide) (fun _ => ?_) (fun q => absurd cb q)
        refine lv_iconst (v := 0) hx hb dL_law_1406 (by decide) ?_
        refine z_ci hI (va_runV (As := [.int (xs (nI (4 * k + 1)).toNatClampNeg), .int 0]) (rest := []) ⟨hx, hb, hml, hown, hts⟩ (c_X11_lose l D tc z0 _ κ g1 _ pm hkm (xs (nI (4 * k + 1)).toNatClampNeg) 0 (Or.inl rfl) lc eC nC mC cf lt eT nT mT tf hM1) (cwV 2 hts gL_law_X11_lose rfl rfl rfl (by decide +kernel) ⟨Nat.le_of_ble_eq_true rfl, Nat.le_of_ble_eq_true rfl⟩) (z_preV (Xc := []) hK hE hI [] rfl rfl (z_recv hK hI hkm rfl rfl)) rfl rfl hl.1 rfl (lv_room (Nat.le_of_ble_eq_true rfl)) dL_law_1407 ⟨(show 60 + 20 * k + 37 * t + 1 + 0 ≤ 746514 from by omega), (show 400 + 120 * k + 162 * t + 6 + 0 ≤ 6862693 from by omega)⟩) (fun w u H locs hw hI => ?_)
        rcases hw with ⟨w0, hno, hu⟩ | ⟨i8, hi8, hx8, w3, w4, hu⟩
        · exact absurd hx9 (hno i9 hi9)
        · have e8 : i8 = i9 := (nI_eq (by omega) (by omega)).mp (hx8.symm.trans hx9)
          rw [e8] at w3 hu
          cases hu
          have hgc : g1 (cf i9) 15 = g (cf i9) 15 := by rw [hg1]; exact (zup_a (z_apart hkc hko (by decide))).trans (zup_a (z_apart hkc hka (by decide)))
          have hrw : 1 = w := Value.int.inj (q4.symm.trans ((hps (17, 15) (by decide)).trans (hgc.symm.trans w3)))
          obtain rfl : w = 1 := hrw.symm
          rw [hg1] at hI
          have hJ : zJ κ (zup (zup (zup (zup g a 17 (.int 0)) po 0 (.long v9)) pm 12 (.int 0)) (cf i9) 15 (.int 0)) z0 px pm rq co sp aC aT t := zJ.setC hJ hMo hCo hTh hi9 hia hka hkc hko (by decide)
          have hI : zI D tc (zA [] [] s.heap.size) s.heap [] L κ (zup (zup (zup (zup g a 17 (.int 0)) po 0 (.long v9)) pm 12 (.int 0)) (cf i9) 15 (.int 0)) H locs := hI
          have hcd : (zup (zup (zup (zup g a 17 (.int 0)) po 0 (.long v9)) pm 12 (.int 0)) (cf i9) 15 (.int 0)) pm 12 = .int 0 := (zup_a (z_apart hkm hkc (by decide))).trans (zup_self _ _ _ _)
          have hpo : (zup (zup (zup (zup g a 17 (.int 0)) po 0 (.long v9)) pm 12 (.int 0)) (cf i9) 15 (.int 0)) po 0 = .long v9 := ((zup_a (z_apart hko hkc (by decide))).trans (zup_a (z_apart hko hkm (by decide)))).trans (zup_self _ _ _ _)
          generalize (zup (zup (zup (zup g a 17 (.int 0)) po 0 (.long v9)) pm 12 (.int 0)) (cf i9) 15 (.int 0)) = g3 at hI hJ hcd hpo
          refine lv_istore (lv' := [(7, .int 1), (6, .int 0), (0, .ref b), (1, .ref px), (2, .ref pm), (3, .ref po), (4, .ref pd), (5, .int (nI (4 * k)))]) hx hb dL_law_1410 hl (by decide) rfl (fun ls hl => ?_)
          refine lv_aload_n hx hb dL_law_1412 rfl (lv_at hl 4 rfl) ?_
          refine z_ci hI (va_runV (As := []) (rest := []) ⟨hx, hb, hml, hown, hts⟩ (c_X11_thrown l D tc z0 _ κ g3 _ pm hkm) (cwV 0 hts gL_law_X11_thrown rfl rfl rfl (by decide +kernel) ⟨Nat.le_of_ble_eq_true rfl, Nat.le_of_ble_eq_true rfl⟩) (z_preV (Xc := []) hK hE hI [] rfl rfl (z_recv hK hI hkm rfl rfl)) rfl rfl hl.1 rfl (lv_room (Nat.le_of_ble_eq_true rfl)) dL_law_1413 ⟨(show 60 + 20 * k + 37 * t + 1 + 0 + 0 ≤ 746514 from by omega), (show 400 + 120 * k + 162 * t + 6 + 0 + 0 ≤ 6862693 from by omega)⟩) (fun w2 u H locs hw hI => ?_)
          obtain ⟨hw2, rfl⟩ := hw
          have hI : zI D tc (zA [] [] s.heap.size) s.heap [] L κ g3 H locs := hI
          obtain rfl : w2 = 0 := Value.int.inj (hw2.symm.trans hcd)
          refine lv_iload hx hb dL_law_1416 (lv_at hl 1 rfl) ?_
          refine lv_icmp_eq (tgt := 1423) hx hb dL_law_1418 (by decide) (fun _ => ?_) (fun hne => absurd rfl hne)
          refine lv_iload hx hb dL_law_1423 (lv_at hl 1 rfl) ?_
          refine lv_if_ne (tgt := 1447) hx hb dL_law_1425 (by decide) (fun h9 => absurd rfl h9) (fun _ => ?_)
          refine lv_aload_n hx hb dL_law_1428 rfl (lv_at hl 5 rfl) ?_
          refine lv_iconst (v := 0) hx hb dL_law_1429 (by decide) ?_
          have hM : zM p s m c cL_law #[Value.ref b] wsL_law RL D tc := ⟨hx, hb, hts, hown, hK⟩
          refine z_lald hM hI hko rfl rfl (vp_in_c 0 1 (by decide)) dL_law_1430 (fun x9 hx9 => ?_)
          obtain ⟨hx9, -⟩ := hx9
          rw [show x9 = v9 from Value.long.inj (hx9.trans hpo)]
          refine lv_iload hx hb dL_law_1431 (lv_at hl 0 rfl) ?_
          refine lv_if_eq (tgt := 1440) hx hb dL_law_1433 (by decide) (fun h9 => absurd h9 (by decide)) (fun _ => ?_)
          refine lv_lconst (v := 1) hx hb dL_law_1436 (by decide) ?_
          refine lv_goto (tgt := 1441) hx hb dL_law_1437 (by decide) ?_
          refine W.lcmp hx hb dL_law_1441 ?_
          rw [show lg_cmp v9 _ = 0 from by rw [hv9]; simp [lg_cmp]]
          refine lv_if_eq (tgt := 1447) hx hb dL_law_1442 (by decide) (fun _ => ?_) (fun h9 => absurd rfl h9)
          refine lv_goto (tgt := 2252) hx hb dL_law_1447 (by decide) ?_
          have hl := lv_sub hl [2, 3, 4, 5, 6, 7] (l' := [(0, .ref b), (1, .ref px), (2, .ref pm), (3, .ref po), (4, .ref pd), (5, .int (nI (4 * k)))]) rfl
          refine W.widen (k := 60 + 20 * (k + 1) + 37 * t) (n := 400 + 120 * (k + 1) + 162 * t) (by omega) (by omega) ?_
          refine W.base ?_
          exact hN s.drawn L κ g3 _ _ _ _ (Drawn.sameBut.refl _ _) hJ hko hkd hI hl
    · obtain ⟨⟨_, q1⟩, hp⟩ := hp
      cases hp
      refine lv_istore (lv' := [(6, .int 1), (0, .ref b), (1, .ref px), (2, .ref pm), (3, .ref po), (4, .ref pd), (5, .int (nI (4 * k)))]) hx hb dL_law_1384 hl (by decide) rfl (fun ls hl => ?_)
      refine lv_aload_n hx hb dL_law_1386 rfl (lv_at hl 3 rfl) ?_
      refine lv_aload_n hx hb dL_law_1387 rfl (lv_at hl 1 rfl) ?_
      refine lv_iload hx hb dL_law_1388 (lv_at hl 6 rfl) ?_
      refine lv_iconst (v := 1) hx hb dL_law_1390 (by decide) ?_
      refine lv_iadd hx hb dL_law_1391 ?_
      rw [show nI (4 * k) + 1 = nI (4 * k + 1) from nI_add _ _]
      refine va_sld hx hb hX hbl hbA hI.2.1 (vp_in_nI (show 4 * k + 1 < N from by omega) (by omega)) dL_law_1392 ?_
      refine lv_aload_n hx hb dL_law_1393 rfl (lv_at hl 1 rfl) ?_
      refine lv_iload hx hb dL_law_1394 (lv_at hl 6 rfl) ?_
      refine lv_iconst (v := 2) hx hb dL_law_1396 (by decide) ?_
      refine lv_iadd hx hb dL_law_1397 ?_
      rw [show nI (4 * k) + 2 = nI (4 * k + 2) from nI_add _ _]
      refine va_sld hx hb hX hbl hbA hI.2.1 (vp_in_nI (show 4 * k + 2 < N from by omega) (by omega)) dL_law_1398 ?_
      refine lv_if_eq (tgt := 1406) hx hb dL_law_1399 (by decide) (fun _ => ?_) (fun q => absurd cb q)
      refine lv_iconst (v := 0) hx hb dL_law_1406 (by decide) ?_
      refine z_ci hI (va_runV (As := [.int (xs (nI (4 * k + 1)).toNatClampNeg), .int 0]) (rest := []) ⟨hx, hb, hml, hown, hts⟩ (c_X11_lose l D tc z0 _ κ g _ pm hkm (xs (nI (4 * k + 1)).toNatClampNeg) 0 (Or.inl rfl) lc eC nC mC cf lt eT nT mT tf hMo) (cwV 2 hts gL_law_X11_lose rfl rfl rfl (by decide +kernel) ⟨Nat.le_of_ble_eq_true rfl, Nat.le_of_ble_eq_true rfl⟩) (z_preV (Xc := []) hK hE hI [] rfl rfl (z_recv hK hI hkm rfl rfl)) rfl rfl hl.1 rfl (lv_room (Nat.le_of_ble_eq_true rfl)) dL_law_1407 ⟨(show 60 + 20 * k + 37 * t + 1 + 0 ≤ 746514 from by omega), (show 400 + 120 * k + 162 * t + 6 + 0 ≤ 6862693 from by omega)⟩) (fun w u H locs hw hI => ?_)
      rcases hw with ⟨w0, hno, hu⟩ | ⟨i8, hi8, hx8, w3, w4, hu⟩
      · skip
        cases hu
        have hJ : zJ κ (zup g pm 12 (.int 1)) z0 px pm rq co sp aC aT t := hJ.upM (by decide)
        have hI : zI D tc (zA [] [] s.heap.size) s.heap [] L κ (zup g pm 12 (.int 1)) H locs := hI
        have hcd : (zup g pm 12 (.int 1)) pm 12 = .int 1 := zup_self _ _ _ _
        generalize (zup g pm 12 (.int 1)) = g3 at hI hJ hcd
        refine lv_istore (lv' := [(7, .int w), (6, .int 1), (0, .ref b), (1, .ref px), (2, .ref pm), (3, .ref po), (4, .ref pd), (5, .int (nI (4 * k)))]) hx hb dL_law_1410 hl (by decide) rfl (fun ls hl => ?_)
        refine lv_aload_n hx hb dL_law_1412 rfl (lv_at hl 4 rfl) ?_
        refine z_ci hI (va_runV (As := []) (rest := []) ⟨hx, hb, hml, hown, hts⟩ (c_X11_thrown l D tc z0 _ κ g3 _ pm hkm) (cwV 0 hts gL_law_X11_thrown rfl rfl rfl (by decide +kernel) ⟨Nat.le_of_ble_eq_true rfl, Nat.le_of_ble_eq_true rfl⟩) (z_preV (Xc := []) hK hE hI [] rfl rfl (z_recv hK hI hkm rfl rfl)) rfl rfl hl.1 rfl (lv_room (Nat.le_of_ble_eq_true rfl)) dL_law_1413 ⟨(show 60 + 20 * k + 37 * t + 1 + 0 + 0 ≤ 746514 from by omega), (show 400 + 120 * k + 162 * t + 6 + 0 + 0 ≤ 6862693 from by omega)⟩) (fun w2 u H locs hw hI => ?_)
        obtain ⟨hw2, rfl⟩ := hw
        have hI : zI D tc (zA [] [] s.heap.size) s.heap [] L κ g3 H locs := hI
        obtain rfl : w2 = 1 := Value.int.inj (hw2.symm.trans hcd)
        refine lv_iload hx hb dL_law_1416 (lv_at hl 1 rfl) ?_
        refine lv_icmp_eq (tgt := 1423) hx hb dL_law_1418 (by decide) (fun _ => ?_) (fun hne => absurd rfl hne)
        refine lv_iload hx hb dL_law_1423 (lv_at hl 1 rfl) ?_
        refine lv_if_ne (tgt := 1447) hx hb dL_law_1425 (by decide) (fun _ => ?_) (fun h9 => absurd h9 (by decide))
        refine lv_goto (tgt := 2252) hx hb dL_law_1447 (by decide) ?_
        have hl := lv_sub hl [2, 3, 4, 5, 6, 7] (l' := [(0, .ref b), (1, .ref px), (2, .ref pm), (3, .ref po), (4, .ref pd), (5, .int (nI (4 * k)))]) rfl
        refine W.widen (k := 60 + 20 * (k + 1) + 37 * t) (n := 400 + 120 * (k + 1) + 162 * t) (by omega) (by omega) ?_
        refine W.base ?_
        exact hN s.drawn L κ g3 _ _ _ _ (Drawn.sameBut.refl _ _) hJ hko hkd hI hl
      · exact absurd ((hCo.has hMo.bC (by decide)).mpr ⟨i8, hi8, hx8⟩) q1
  · skip
    refine lv_iconst (v := 1) hx hb dL_law_1375 (by decide) ?_
    refine lv_goto (tgt := 1380) hx hb dL_law_1376 (by decide) ?_
    refine lv_aload_n hx hb dL_law_1380 rfl (lv_at hl 3 rfl) ?_
    obtain ⟨⟨⟨hkx, hkm, hkq, hkO, hkS, hkC, hkT⟩, ⟨hR, hO, hS9, hC, hT⟩, ⟨htM, htb⟩, lc, eC, nC, mC, cf, lt, eT, nT, mT, tf, hMo, hCo, hTh⟩, a0, a1, a2, a3, a4, a5, a6, a7⟩ := id hJ
    refine z_xi hI (vx_runSX (As := [.ref px, .int (xs (nI (4 * k + 1)).toNatClampNeg), .int 1, .ref po]) (rest := []) ⟨hx, hb, hml, hown, hts⟩ (c_L_lose l hnt D tc z0 _ κ g _ px hkx (xs (nI (4 * k + 1)).toNatClampNeg) 1 (Or.inr rfl) po hko aC hC) (vx_cwSW 4 hts gL_law_L_lose rfl rfl rfl (by decide +kernel) ⟨Nat.le_of_ble_eq_true rfl, Nat.le_of_ble_eq_true rfl⟩) (z_pre (Xc := []) hK hE hI [] rfl rfl) rfl rfl hl.1 rfl (lv_room (Nat.le_of_ble_eq_true rfl)) dL_law_1381 ⟨(show 60 + 20 * k + 37 * t + 1 ≤ 746514 from by omega), (show 400 + 120 * k + 162 * t + 6 ≤ 6862693 from by omega)⟩) (fun E ce q9 u H locs hw hI he1 he2 he3 => hw.elim) (fun v u H locs hw hI => ?_)
    have hbC := hMo.bC
    have hbT := hMo.bT
    rcases hw with ⟨rfl, r1, u1, v9, hp, hv9, hu⟩ | ⟨rfl, hp⟩
    · obtain ⟨a, hka, q1, q2, q4, qb, hp⟩ := hp
      cases hp
      cases hu
      obtain ⟨i9, hi9, hx9⟩ : ∃ i9, i9 < nC ∧ ((xs (nI (4 * k + 1)).toNatClampNeg)) = nI i9 := (hCo.has hMo.bC (by decide)).mp ⟨q1, _, q2⟩
      rw [hx9] at q2
      obtain ⟨hia, -, hkc, hps⟩ := hCo.nth hMo.bC (by decide) hi9 q2
      rcases qb with rfl | rfl
      · have hv9 : v9 = 0 := by simpa using hv9
        have hM1 : zMo κ (zup (zup g a 17 (.int 1)) po 0 (.long v9)) z0 pm lc eC nC mC cf lt eT nT mT tf := (hMo.upO hka (by decide)).upO hko (by decide)
        have hI : zI D tc (zA [] [] s.heap.size) s.heap [] L κ (zup (zup g a 17 (.int 1)) po 0 (.long v9)) H locs := hI
        obtain ⟨g1, hg1⟩ : ∃ x, x = (zup (zup g a 17 (.int 1)) po 0 (.long v9)) := ⟨_, rfl⟩
        rw [← hg1] at hI hM1
        refine lv_istore (lv' := [(6, .int 0), (0, .ref b), (1, .ref px), (2, .ref pm), (3, .ref po), (4, .ref pd), (5, .int (nI (4 * k)))]) hx hb dL_law_1384 hl (by decide) rfl (fun ls hl => ?_)
        refine lv_aload_n hx hb dL_law_1386 rfl (lv_at hl 3 rfl) ?_
        refine lv_aload_n hx hb dL_law_1387 rfl (lv_at hl 1 rfl) ?_
        refine lv_iload hx hb dL_law_1388 (lv_at hl 6 rfl) ?_
        refine lv_iconst (v := 1) hx hb dL_law_1390 (by decide) ?_
        refine lv_iadd hx hb dL_law_1391 ?_
        rw [show nI (4 * k) + 1 = nI (4 * k + 1) from nI_add _ _]
        refine va_sld hx hb hX hbl hbA hI.2.1 (vp_in_nI (show 4 * k + 1 < N from by omega) (by omega)) dL_law_1392 ?_
        refine lv_aload_n hx hb dL_law_1393 rfl (lv_at hl 1 rfl) ?_
        refine lv_iload hx hb dL_law_1394 (lv_at hl 6 rfl) ?_
        refine lv_iconst (v := 2) hx hb dL_law_1396 (by decide) ?_
        refine lv_iadd hx hb dL_law_1397 ?_
        rw [show nI (4 * k) + 2 = nI (4 * k + 2) from nI_add _ _]
        refine va_sld hx hb hX hbl hbA hI.2.1 (vp_in_nI (show 4 * k + 2 < N from by omega) (by omega)) dL_law_1398 ?_
        refine lv_if_eq (tgt := 1406) hx hb dL_law_1399 (by decide) (fun q => absurd q cb) (fun _ => ?_)
        refine lv_iconst (v := 1) hx hb dL_law_1402 (by decide) ?_
        refine lv_goto (tgt := 1407) hx hb dL_law_1403 (by decide) ?_
        refine z_ci hI (va_runV (As := [.int (xs (nI (4 * k + 1)).toNatClampNeg), .int 1]) (rest := []) ⟨hx, hb, hml, hown, hts⟩ (c_X11_lose l D tc z0 _ κ g1 _ pm hkm (xs (nI (4 * k + 1)).toNatClampNeg) 1 (Or.inr rfl) lc eC nC mC cf lt eT nT mT tf hM1) (cwV 2 hts gL_law_X11_lose rfl rfl rfl (by decide +kernel) ⟨Nat.le_of_ble_eq_true rfl, Nat.le_of_ble_eq_true rfl⟩) (z_preV (Xc := []) hK hE hI [] rfl rfl (z_recv hK hI hkm rfl rfl)) rfl rfl hl.1 rfl (lv_room (Nat.le_of_ble_eq_true rfl)) dL_law_1407 ⟨(show 60 + 20 * k + 37 * t + 1 + 0 ≤ 746514 from by omega), (show 400 + 120 * k + 162 * t + 6 + 0 ≤ 6862693 from by omega)⟩) (fun w u H locs hw hI => ?_)
        rcases hw with ⟨w0, hno, hu⟩ | ⟨i8, hi8, hx8, w3, w4, hu⟩
        · exact absurd hx9 (hno i9 hi9)
        · have e8 : i8 = i9 := (nI_eq (by omega) (by omega)).mp (hx8.symm.trans hx9)
          rw [e8] at w3 hu
          cases hu
          have hgc : g1 (cf i9) 15 = g (cf i9) 15 := by rw [hg1]; exact (zup_a (z_apart hkc hko (by decide))).trans (zup_a (z_apart hkc hka (by decide)))
          have hrw : 0 = w := Value.int.inj (q4.symm.trans ((hps (17, 15) (by decide)).trans (hgc.symm.trans w3)))
          obtain rfl : w = 0 := hrw.symm
          rw [hg1] at hI
          have hJ : zJ κ (zup (zup (zup (zup g a 17 (.int 1)) po 0 (.long v9)) pm 12 (.int 0)) (cf i9) 15 (.int 1)) z0 px pm rq co sp aC aT t := zJ.setC hJ hMo hCo hTh hi9 hia hka hkc hko (by decide)
          have hI : zI D tc (zA [] [] s.heap.size) s.heap [] L κ (zup (zup (zup (zup g a 17 (.int 1)) po 0 (.long v9)) pm 12 (.int 0)) (cf i9) 15 (.int 1)) H locs := hI
          have hcd : (zup (zup (zup (zup g a 17 (.int 1)) po 0 (.long v9)) pm 12 (.int 0)) (cf i9) 15 (.int 1)) pm 12 = .int 0 := (zup_a (z_apart hkm hkc (by decide))).trans (zup_self _ _ _ _)
          have hpo : (zup (zup (zup (zup g a 17 (.int 1)) po 0 (.long v9)) pm 12 (.int 0)) (cf i9) 15 (.int 1)) po 0 = .long v9 := ((zup_a (z_apart hko hkc (by decide))).trans (zup_a (z_apart hko hkm (by decide)))).trans (zup_self _ _ _ _)
          generalize (zup (zup (zup (zup g a 17 (.int 1)) po 0 (.long v9)) pm 12 (.int 0)) (cf i9) 15 (.int 1)) = g3 at hI hJ hcd hpo
          refine lv_istore (lv' := [(7, .int 0), (6, .int 0), (0, .ref b), (1, .ref px), (2, .ref pm), (3, .ref po), (4, .ref pd), (5, .int (nI (4 * k)))]) hx hb dL_law_1410 hl (by decide) rfl (fun ls hl => ?_)
          refine lv_aload_n hx hb dL_law_1412 rfl (lv_at hl 4 rfl) ?_
          refine z_ci hI (va_runV (As := []) (rest := []) ⟨hx, hb, hml, hown, hts⟩ (c_X11_thrown l D tc z0 _ κ g3 _ pm hkm) (cwV 0 hts gL_law_X11_thrown rfl rfl rfl (by decide +kernel) ⟨Nat.le_of_ble_eq_true rfl, Nat.le_of_ble_eq_true rfl⟩) (z_preV (Xc := []) hK hE hI [] rfl rfl (z_recv hK hI hkm rfl rfl)) rfl rfl hl.1 rfl (lv_room (Nat.le_of_ble_eq_true rfl)) dL_law_1413 ⟨(show 60 + 20 * k + 37 * t + 1 + 0 + 0 ≤ 746514 from by omega), (show 400 + 120 * k + 162 * t + 6 + 0 + 0 ≤ 6862693 from by omega)⟩) (fun w2 u H locs hw hI => ?_)
          obtain ⟨hw2, rfl⟩ := hw
          have hI : zI D tc (zA [] [] s.heap.size) s.heap [] L κ g3 H locs := hI
          obtain rfl : w2 = 0 := Value.int.inj (hw2.symm.trans hcd)
          refine lv_iload hx hb dL_law_1416 (lv_at hl 1 rfl) ?_
          refine lv_icmp_eq (tgt := 1423) hx hb dL_law_1418 (by decide) (fun _ => ?_) (fun hne => absurd rfl hne)
          refine lv_iload hx hb dL_law_1423 (lv_at hl 1 rfl) ?_
          refine lv_if_ne (tgt := 1447) hx hb dL_law_1425 (by decide) (fun h9 => absurd rfl h9) (fun _ => ?_)
          refine lv_aload_n hx hb dL_law_1428 rfl (lv_at hl 5 rfl) ?_
          refine lv_iconst (v := 0) hx hb dL_law_1429 (by decide) ?_
          have hM : zM p s m c cL_law #[Value.ref b] wsL_law RL D tc := ⟨hx, hb, hts, hown, hK⟩
          refine z_lald hM hI hko rfl rfl (vp_in_c 0 1 (by decide)) dL_law_1430 (fun x9 hx9 => ?_)
          obtain ⟨hx9, -⟩ := hx9
          rw [show x9 = v9 from Value.long.inj (hx9.trans hpo)]
          refine lv_iload hx hb dL_law_1431 (lv_at hl 0 rfl) ?_
          refine lv_if_eq (tgt := 1440) hx hb dL_law_1433 (by decide) (fun _ => ?_) (fun h9 => absurd rfl h9)
          refine lv_lconst (v := 0) hx hb dL_law_1440 (by decide) ?_
          refine W.lcmp hx hb dL_law_1441 ?_
          rw [show lg_cmp v9 _ = 0 from by rw [hv9]; simp [lg_cmp]]
          refine lv_if_eq (tgt := 1447) hx hb dL_law_1442 (by decide) (fun _ => ?_) (fun h9 => absurd rfl h9)
          refine lv_goto (tgt := 2252) hx hb dL_law_1447 (by decide) ?_
          have hl := lv_sub hl [2, 3, 4, 5, 6, 7] (l' := [(0, .ref b), (1, .ref px), (2, .ref pm), (3, .ref po), (4, .ref pd), (5, .int (nI (4 * k)))]) rfl
          refine W.widen (k := 60 + 20 * (k + 1) + 37 * t) (n := 400 + 120 * (k + 1) + 162 * t) (by omega) (by omega) ?_
          refine W.base ?_
          exact hN s.drawn L κ g3 _ _ _ _ (Drawn.sameBut.refl _ _) hJ hko hkd hI hl
      · have hv9 : v9 = 1 := by simpa using hv9
        have hM1 : zMo κ (zup (zup g a 17 (.int 1)) po 0 (.long v9)) z0 pm lc eC nC mC cf lt eT nT mT tf := (hMo.upO hka (by decide)).upO hko (by decide)
        have hI : zI D tc (zA [] [] s.heap.size) s.heap [] L κ (zup (zup g a 17 (.int 1)) po 0 (.long v9)) H locs := hI
        obtain ⟨g1, hg1⟩ : ∃ x, x = (zup (zup g a 17 (.int 1)) po 0 (.long v9)) := ⟨_, rfl⟩
        rw [← hg1] at hI hM1
        refine lv_istore (lv' := [(6, .int 0), (0, .ref b), (1, .ref px), (2, .ref pm), (3, .ref po), (4, .ref pd), (5, .int (nI (4 * k)))]) hx hb dL_law_1384 hl (by decide) rfl (fun ls hl => ?_)
        refine lv_aload_n hx hb dL_law_1386 rfl (lv_at hl 3 rfl) ?_
        refine lv_aload_n hx hb dL_law_1387 rfl (lv_at hl 1 rfl) ?_
        refine lv_iload hx hb dL_law_1388 (lv_at hl 6 rfl) ?_
        refine lv_iconst (v := 1) hx hb dL_law_1390 (by decide) ?_
        refine lv_iadd hx hb dL_law_1391 ?_
        rw [show nI (4 * k) + 1 = nI (4 * k + 1) from nI_add _ _]
        refine va_sld hx hb hX hbl hbA hI.2.1 (vp_in_nI (show 4 * k + 1 < N from by omega) (by omega)) dL_law_1392 ?_
        refine lv_aload_n hx hb dL_law_1393 rfl (lv_at hl 1 rfl) ?_
        refine lv_iload hx hb dL_law_1394 (lv_at hl 6 rfl) ?_
        refine lv_iconst (v := 2) hx hb dL_law_1396 (by decide) ?_
        refine lv_iadd hx hb dL_law_1397 ?_
        rw [show nI (4 * k) + 2 = nI (4 * k + 2) from nI_add _ _]
        refine va_sld hx hb hX hbl hbA hI.2.1 (vp_in_nI (show 4 * k + 2 < N from by omega) (by omega)) dL_law_1398 ?_
        refine lv_if_eq (tgt := 1406) hx hb dL_law_1399 (by decide) (fun q => absurd q cb) (fun _ => ?_)
        refine lv_iconst (v := 1) hx hb dL_law_1402 (by decide) ?_
        refine lv_goto (tgt := 1407) hx hb dL_law_1403 (by decide) ?_
        refine z_ci hI (va_runV (As := [.int (xs (nI (4 * k + 1)).toNatClampNeg), .int 1]) (rest := []) ⟨hx, hb, hml, hown, hts⟩ (c_X11_lose l D tc z0 _ κ g1 _ pm hkm (xs (nI (4 * k + 1)).toNatClampNeg) 1 (Or.inr rfl) lc eC nC mC cf lt eT nT mT tf hM1) (cwV 2 hts gL_law_X11_lose rfl rfl rfl (by decide +kernel) ⟨Nat.le_of_ble_eq_true rfl, Nat.le_of_ble_eq_true rfl⟩) (z_preV (Xc := []) hK hE hI [] rfl rfl (z_recv hK hI hkm rfl rfl)) rfl rfl hl.1 rfl (lv_room (Nat.le_of_ble_eq_true rfl)) dL_law_1407 ⟨(show 60 + 20 * k + 37 * t + 1 + 0 ≤ 746514 from by omega), (show 400 + 120 * k + 162 * t + 6 + 0 ≤ 6862693 from by omega)⟩) (fun w u H locs hw hI => ?_)
        rcases hw with ⟨w0, hno, hu⟩ | ⟨i8, hi8, hx8, w3, w4, hu⟩
        · exact absurd hx9 (hno i9 hi9)
        · have e8 : i8 = i9 := (nI_eq (by omega) (by omega)).mp (hx8.symm.trans hx9)
          rw [e8] at w3 hu
          cases hu
          have hgc : g1 (cf i9) 15 = g (cf i9) 15 := by rw [hg1]; exact (zup_a (z_apart hkc hko (by decide))).trans (zup_a (z_apart hkc hka (by decide)))
          have hrw : 1 = w := Value.int.inj (q4.symm.trans ((hps (17, 15) (by decide)).trans (hgc.symm.trans w3)))
          obtain rfl : w = 1 := hrw.symm
          rw [hg1] at hI
          have hJ : zJ κ (zup (zup (zup (zup g a 17 (.int 1)) po 0 (.long v9)) pm 12 (.int 0)) (cf i9) 15 (.int 1)) z0 px pm rq co sp aC aT t := zJ.setC hJ hMo hCo hTh hi9 hia hka hkc hko (by decide)
          have hI : zI D tc (zA [] [] s.heap.size) s.heap [] L κ (zup (zup (zup (zup g a 17 (.int 1)) po 0 (.long v9)) pm 12 (.int 0)) (cf i9) 15 (.int 1)) H locs := hI
          have hcd : (zup (zup (zup (zup g a 17 (.int 1)) po 0 (.long v9)) pm 12 (.int 0)) (cf i9) 15 (.int 1)) pm 12 = .int 0 := (zup_a (z_apart hkm hkc (by decide))).trans (zup_self _ _ _ _)
          have hpo : (zup (zup (zup (zup g a 17 (.int 1)) po 0 (.long v9)) pm 12 (.int 0)) (cf i9) 15 (.int 1)) po 0 = .long v9 := ((zup_a (z_apart hko hkc (by decide))).trans (zup_a (z_apart hko hkm (by decide)))).trans (zup_self _ _ _ _)
          generalize (zup (zup (zup (zup g a 17 (.int 1)) po 0 (.long v9)) pm 12 (.int 0)) (cf i9) 15 (.int 1)) = g3 at hI hJ hcd hpo
          refine lv_istore (lv' := [(7, .int 1), (6, .int 0), (0, .ref b), (1, .ref px), (2, .ref pm), (3, .ref po), (4, .ref pd), (5, .int (nI (4 * k)))]) hx hb dL_law_1410 hl (by decide) rfl (fun ls hl => ?_)
          refine lv_aload_n hx hb dL_law_1412 rfl (lv_at hl 4 rfl) ?_
          refine z_ci hI (va_runV (As := []) (rest := []) ⟨hx, hb, hml, hown, hts⟩ (c_X11_thrown l D tc z0 _ κ g3 _ pm hkm) (cwV 0 hts gL_law_X11_thrown rfl rfl rfl (by decide +kernel) ⟨Nat.le_of_ble_eq_true rfl, Nat.le_of_ble_eq_true rfl⟩) (z_preV (Xc := []) hK hE hI [] rfl rfl (z_recv hK hI hkm rfl rfl)) rfl rfl hl.1 rfl (lv_room (Nat.le_of_ble_eq_true rfl)) dL_law_1413 ⟨(show 60 + 20 * k + 37 * t + 1 + 0 + 0 ≤ 746514 from by omega), (show 400 + 120 * k + 162 * t + 6 + 0 + 0 ≤ 6862693 from by omega)⟩) (fun w2 u H locs hw hI => ?_)
          obtain ⟨hw2, rfl⟩ := hw
          have hI : zI D tc (zA [] [] s.heap.size) s.heap [] L κ g3 H locs := hI
          obtain rfl : w2 = 0 := Value.int.inj (hw2.symm.trans hcd)
          refine lv_iload hx hb dL_law_1416 (lv_at hl 1 rfl) ?_
          refine lv_icmp_eq (tgt := 1423) hx hb dL_law_1418 (by decide) (fun _ => ?_) (fun hne => absurd rfl hne)
          refine lv_iload hx hb dL_law_1423 (lv_at hl 1 rfl) ?_
          refine lv_if_ne (tgt := 1447) hx hb dL_law_1425 (by decide) (fun h9 => absurd rfl h9) (fun _ => ?_)
          refine lv_aload_n hx hb dL_law_1428 rfl (lv_at hl 5 rfl) ?_
          refine lv_iconst (v := 0) hx hb dL_law_1429 (by decide) ?_
          have hM : zM p s m c cL_law #[Value.ref b] wsL_law RL D tc := ⟨hx, hb, hts, hown, hK⟩
          refine z_lald hM hI hko rfl rfl (vp_in_c 0 1 (by decide)) dL_law_1430 (fun x9 hx9 => ?_)
          obtain ⟨hx9, -⟩ := hx9
          rw [show x9 = v9 from Value.long.inj (hx9.trans hpo)]
          refine lv_iload hx hb dL_law_1431 (lv_at hl 0 rfl) ?_
          refine lv_if_eq (tgt := 1440) hx hb dL_law_1433 (by decide) (fun h9 => absurd h9 (by decide)) (fun _ => ?_)
          refine lv_lconst (v := 1) hx hb dL_law_1436 (by decide) ?_
          refine lv_goto (tgt := 1441) hx hb dL_law_1437 (by decide) ?_
          refine W.lcmp hx hb dL_law_1441 ?_
          rw [show lg_cmp v9 _ = 0 from by rw [hv9]; simp [lg_cmp]]
          refine lv_if_eq (tgt := 1447) hx hb dL_law_1442 (by decide) (fun _ => ?_) (fun h9 => absurd rfl h9)
          refine lv_goto (tgt := 2252) hx hb dL_law_1447 (by decide) ?_
          have hl := lv_sub hl [2, 3, 4, 5, 6, 7] (l' := [(0, .ref b), (1, .ref px), (2, .ref pm), (3, .ref po), (4, .ref pd), (5, .int (nI (4 * k)))]) rfl
          refine W.widen (k := 60 + 20 * (k + 1) + 37 * t) (n := 400 + 120 * (k + 1) + 162 * t) (by omega) (by omega) ?_
          refine W.base ?_
          exact hN s.drawn L κ g3 _ _ _ _ (Drawn.sameBut.refl _ _) hJ hko hkd hI hl
    · obtain ⟨⟨_, q1⟩, hp⟩ := hp
      cases hp
      refine lv_istore (lv' := [(6, .int 1), (0, .ref b), (1, .ref px), (2, .ref pm), (3, .ref po), (4, .ref pd), (5, .int (nI (4 * k)))]) hx hb dL_law_1384 hl (by decide) rfl (fun ls hl => ?_)
      refine lv_aload_n hx hb dL_law_1386 rfl (lv_at hl 3 rfl) ?_
      refine lv_aload_n hx hb dL_law_1387 rfl (lv_at hl 1 rfl) ?_
      refine lv_iload hx hb dL_law_1388 (lv_at hl 6 rfl) ?_
      refine lv_iconst (v := 1) hx hb dL_law_1390 (by decide) ?_
      refine lv_iadd hx hb dL_law_1391 ?_
      rw [show nI (4 * k) + 1 = nI (4 * k + 1) from nI_add _ _]
      refine va_sld hx hb hX hbl hbA hI.2.1 (vp_in_nI (show 4 * k + 1 < N from by omega) (by omega)) dL_law_1392 ?_
      refine lv_aload_n hx hb dL_law_1393 rfl (lv_at hl 1 rfl) ?_
      refine lv_iload hx hb dL_law_1394 (lv_at hl 6 rfl) ?_
      refine lv_iconst (v := 2) hx hb dL_law_1396 (by decide) ?_
      refine lv_iadd hx hb dL_law_1397 ?_
      rw [show nI (4 * k) + 2 = nI (4 * k + 2) from nI_add _ _]
      refine va_sld hx hb hX hbl hbA hI.2.1 (vp_in_nI (show 4 * k + 2 < N from by omega) (by omega)) dL_law_1398 ?_
      refine lv_if_eq (tgt := 1406) hx hb dL_law_1399 (by decide) (fun q => absurd q cb) (fun _ => ?_)
      refine lv_iconst (v := 1) hx hb dL_law_1402 (by decide) ?_
      refine lv_goto (tgt := 1407) hx hb dL_law_1403 (by decide) ?_
      refine z_ci hI (va_runV (As := [.int (xs (nI (4 * k + 1)).toNatClampNeg), .int 1]) (rest := []) ⟨hx, hb, hml, hown, hts⟩ (c_X11_lose l D tc z0 _ κ g _ pm hkm (xs (nI (4 * k + 1)).toNatClampNeg) 1 (Or.inr rfl) lc eC nC mC cf lt eT nT mT tf hMo) (cwV 2 hts gL_law_X11_lose rfl rfl rfl (by decide +kernel) ⟨Nat.le_of_ble_eq_true rfl, Nat.le_of_ble_eq_true rfl⟩) (z_preV (Xc := []) hK hE hI [] rfl rfl (z_recv hK hI hkm rfl rfl)) rfl rfl hl.1 rfl (lv_room (Nat.le_of_ble_eq_true rfl)) dL_law_1407 ⟨(show 60 + 20 * k + 37 * t + 1 + 0 ≤ 746514 from by omega), (show 400 + 120 * k + 162 * t + 6 + 0 ≤ 6862693 from by omega)⟩) (fun w u H locs hw hI => ?_)
      rcases hw with ⟨w0, hno, hu⟩ | ⟨i8, hi8, hx8, w3, w4, hu⟩
      · skip
        cases hu
        have hJ : zJ κ (zup g pm 12 (.int 1)) z0 px pm rq co sp aC aT t := hJ.upM (by decide)
        have hI : zI D tc (zA [] [] s.heap.size) s.heap [] L κ (zup g pm 12 (.int 1)) H locs := hI
        have hcd : (zup g pm 12 (.int 1)) pm 12 = .int 1 := zup_self _ _ _ _
        generalize (zup g pm 12 (.int 1)) = g3 at hI hJ hcd
        refine lv_istore (lv' := [(7, .int w), (6, .int 1), (0, .ref b), (1, .ref px), (2, .ref pm), (3, .ref po), (4, .ref pd), (5, .int (nI (4 * k)))]) hx hb dL_law_1410 hl (by decide) rfl (fun ls hl => ?_)
        refine lv_aload_n hx hb dL_law_1412 rfl (lv_at hl 4 rfl) ?_
        refine z_ci hI (va_runV (As := []) (rest := []) ⟨hx, hb, hml, hown, hts⟩ (c_X11_thrown l D tc z0 _ κ g3 _ pm hkm) (cwV 0 hts gL_law_X11_thrown rfl rfl rfl (by decide +kernel) ⟨Nat.le_of_ble_eq_true rfl, Nat.le_of_ble_eq_true rfl⟩) (z_preV (Xc := []) hK hE hI [] rfl rfl (z_recv hK hI hkm rfl rfl)) rfl rfl hl.1 rfl (lv_room (Nat.le_of_ble_eq_true rfl)) dL_law_1413 ⟨(show 60 + 20 * k + 37 * t + 1 + 0 + 0 ≤ 746514 from by omega), (show 400 + 120 * k + 162 * t + 6 + 0 + 0 ≤ 6862693 from by omega)⟩) (fun w2 u H locs hw hI => ?_)
        obtain ⟨hw2, rfl⟩ := hw
        have hI : zI D tc (zA [] [] s.heap.size) s.heap [] L κ g3 H locs := hI
        obtain rfl : w2 = 1 := Value.int.inj (hw2.symm.trans hcd)
        refine lv_iload hx hb dL_law_1416 (lv_at hl 1 rfl) ?_
        refine lv_icmp_eq (tgt := 1423) hx hb dL_law_1418 (by decide) (fun _ => ?_) (fun hne => absurd rfl hne)
        refine lv_iload hx hb dL_law_1423 (lv_at hl 1 rfl) ?_
        refine lv_if_ne (tgt := 1447) hx hb dL_law_1425 (by decide) (fun _ => ?_) (fun h9 => absurd h9 (by decide))
        refine lv_goto (tgt := 2252) hx hb dL_law_1447 (by decide) ?_
        have hl := lv_sub hl [2, 3, 4, 5, 6, 7] (l' := [(0, .ref b), (1, .ref px), (2, .ref pm), (3, .ref po), (4, .ref pd), (5, .int (nI (4 * k)))]) rfl
        refine W.widen (k := 60 + 20 * (k + 1) + 37 * t) (n := 400 + 120 * (k + 1) + 162 * t) (by omega) (by omega) ?_
        refine W.base ?_
        exact hN s.drawn L κ g3 _ _ _ _ (Drawn.sameBut.refl _ _) hJ hko hkd hI hl
      · exact absurd ((hCo.has hMo.bC (by decide)).mpr ⟨i8, hi8, hx8⟩) q1

set_option maxHeartbeats 4000000 in
set_option maxRecDepth 100000 in
theorem k_isTripped (l : Launch) (hnt : l.stackTraces = false) {p : Program} {e : Env} {s : State} {m : MethodId} {below : List Frame} {meth : Method} {c : Code} {H : Heap} {locs : List Loc} {Q : State → Prop} {D : va_G} {tc : Nat → ClassId} {z0 b N : Nat} {xs : Nat → Int32} {px pm po pd rq co sp aC aT t k : Nat} {L : List Nat} {κ : Nat → Nat} {g : Nat → Nat → Value} {ls : Array Slot} (C : lwC p s m meth c b N xs D tc z0) (hk : 4 * k + 4 ≤ N) (hN8 : N ≤ 2048) (hJ : zJ κ g z0 px pm rq co sp aC aT t) (h0 : (∀ j, g aC j = .null) ∧ ∀ j, g aT j = .null) (hko : κ po = 29) (hkd : κ pd = 30) (hI : zI D tc (zA [] [] s.heap.size) s.heap [] L κ g H locs) (hl : lv_has ls 9 [(0, .ref b), (1, .ref px), (2, .ref pm), (3, .ref po), (4, .ref pd), (5, .int (nI (4 * k)))]) (hN : lwN p l e s m below meth c b D tc z0 px pm po pd rq co sp aC aT k Q) : W p l e room_1 s m #[Value.ref b] below meth c H locs (60 + 20 * k + 37 * t) (400 + 120 * k + 162 * t) Q (F0 m 1450 ls []) := by
  obtain ⟨hx, hb, hml, hown, hts, hK, hE, hX, hbl⟩ := C
  have hbA : ¬ zA [] [] s.heap.size b := fun q => by rcases q with q | q | q; exact absurd q List.not_mem_nil; exact absurd q List.not_mem_nil; exact absurd hbl (Nat.not_lt.mpr q)
  have htb9 : t ≤ 9999 := hJ.1.2.2.1.2
  refine lv_aload_n hx hb dL_law_1450 rfl (lv_at hl 1 rfl) ?_
  refine lv_aload_n hx hb dL_law_1451 rfl (lv_at hl 0 rfl) ?_
  refine lv_iload hx hb dL_law_1452 (lv_at hl 5 rfl) ?_
  refine lv_iconst (v := 1) hx hb dL_law_1454 (by decide) ?_
  refine lv_iadd hx hb dL_law_1455 ?_
  rw [show nI (4 * k) + 1 = nI (4 * k + 1) from nI_add _ _]
  refine va_sld hx hb hX hbl hbA hI.2.1 (vp_in_nI (show 4 * k + 1 < N from by omega) (by omega)) dL_law_1456 ?_
  refine lv_aload_n hx hb dL_law_1457 rfl (lv_at hl 3 rfl) ?_
  obtain ⟨⟨⟨hkx, hkm, hkq, hkO, hkS, hkC, hkT⟩, ⟨hR, hO, hS9, hC, hT⟩, ⟨htM, htb⟩, lc, eC, nC, mC, cf, lt, eT, nT, mT, tf, hMo, hCo, hTh⟩, a0, a1, a2, a3, a4, a5, a6, a7⟩ := id hJ
  refine z_xi hI (vx_runSX (As := [.ref px, .int (xs (nI (4 * k + 1)).toNatClampNeg), .ref po]) (rest := []) ⟨hx, hb, hml, hown, hts⟩ (c_L_isTripped l hnt D tc z0 _ κ g _ px hkx (xs (nI (4 * k + 1)).toNatClampNeg) po hko aC hC) (vx_cwSW 3 hts gL_law_L_isTripped rfl rfl rfl (by decide +kernel) ⟨Nat.le_of_ble_eq_true rfl, Nat.le_of_ble_eq_true rfl⟩) (z_pre (Xc := []) hK hE hI [] rfl rfl) rfl rfl hl.1 rfl (lv_room (Nat.le_of_ble_eq_true rfl)) dL_law_1458 ⟨(show 60 + 20 * k + 37 * t + 1 ≤ 746514 from by omega), (show 400 + 120 * k + 162 * t + 6 ≤ 6862693 from by omega)⟩) (fun E ce q9 u H locs hw hI he1 he2 he3 => hw.elim) (fun v u H locs hw hI => ?_)
  have hn0 : nC = 0 := hCo.zero h0.1
  have hno : ∀ x, ¬ zHas g aC 6 x := fun x q => by obtain ⟨i9, hi9, -⟩ := (hCo.has hMo.bC (by decide)).mp q; omega
  rcases hw with ⟨rfl, r1, u1, v9, hp, hv9, hu⟩ | ⟨rfl, hp⟩
  · exact absurd hp.1 (hno _)
  · obtain ⟨⟨_, q1⟩, hp⟩ := hp
    cases hp
    refine lv_istore (lv' := [(6, .int 1), (0, .ref b), (1, .ref px), (2, .ref pm), (3, .ref po), (4, .ref pd), (5, .int (nI (4 * k)))]) hx hb dL_law_1461 hl (by decide) rfl (fun ls hl => ?_)
    refine lv_aload_n hx hb dL_law_1463 rfl (lv_at hl 3 rfl) ?_
    refine lv_aload_n hx hb dL_law_1464 rfl (lv_at hl 1 rfl) ?_
    refine lv_iload hx hb dL_law_1465 (lv_at hl 6 rfl) ?_
    refine lv_iconst (v := 1) hx hb dL_law_1467 (by decide) ?_
    refine lv_iadd hx hb dL_law_1468 ?_
    rw [show nI (4 * k) + 1 = nI (4 * k + 1) from nI_add _ _]
    refine va_sld hx hb hX hbl hbA hI.2.1 (vp_in_nI (show 4 * k + 1 < N from by omega) (by omega)) dL_law_1469 ?_
    refine z_ci hI (va_runV (As := [.int (xs (nI (4 * k + 1)).toNatClampNeg)]) (rest := []) ⟨hx, hb, hml, hown, hts⟩ (c_X11_isTripped l D tc z0 _ κ g _ pm hkm (xs (nI (4 * k + 1)).toNatClampNeg) lc eC nC mC cf lt eT nT mT tf hMo) (cwV 1 hts gL_law_X11_isTripped rfl rfl rfl (by decide +kernel) ⟨Nat.le_of_ble_eq_true rfl, Nat.le_of_ble_eq_true rfl⟩) (z_preV (Xc := []) hK hE hI [] rfl rfl (z_recv hK hI hkm rfl rfl)) rfl rfl hl.1 rfl (lv_room (Nat.le_of_ble_eq_true rfl)) dL_law_1470 ⟨(show 60 + 20 * k + 37 * t + 1 + 0 ≤ 746514 from by omega), (show 400 + 120 * k + 162 * t + 6 + 0 ≤ 6862693 from by omega)⟩) (fun w u H locs hw hI => ?_)
    obtain ⟨v8, hv8, rfl⟩ := hw
    obtain rfl : v8 = 1 := hv8 hn0
    have hJ : zJ κ (zup g pm 12 (.int 1)) z0 px pm rq co sp aC aT t := hJ.upM (by decide)
    have hI : zI D tc (zA [] [] s.heap.size) s.heap [] L κ (zup g pm 12 (.int 1)) H locs := hI
    have hcd : (zup g pm 12 (.int 1)) pm 12 = .int 1 := zup_self _ _ _ _
    generalize (zup g pm 12 (.int 1)) = g3 at hI hJ hcd
    refine lv_istore (lv' := [(7, .int w), (6, .int 1), (0, .ref b), (1, .ref px), (2, .ref pm), (3, .ref po), (4, .ref pd), (5, .int (nI (4 * k)))]) hx hb dL_law_1473 hl (by decide) rfl (fun ls hl => ?_)
    refine lv_aload_n hx hb dL_law_1475 rfl (lv_at hl 4 rfl) ?_
    refine z_ci hI (va_runV (As := []) (rest := []) ⟨hx, hb, hml, hown, hts⟩ (c_X11_thrown l D tc z0 _ κ g3 _ pm hkm) (cwV 0 hts gL_law_X11_thrown rfl rfl rfl (by decide +kernel) ⟨Nat.le_of_ble_eq_true rfl, Nat.le_of_ble_eq_true rfl⟩) (z_preV (Xc := []) hK hE hI [] rfl rfl (z_recv hK hI hkm rfl rfl)) rfl rfl hl.1 rfl (lv_room (Nat.le_of_ble_eq_true rfl)) dL_law_1476 ⟨(show 60 + 20 * k + 37 * t + 1 + 0 + 0 ≤ 746514 from by omega), (show 400 + 120 * k + 162 * t + 6 + 0 + 0 ≤ 6862693 from by omega)⟩) (fun w2 u H locs hw hI => ?_)
    obtain ⟨hw2, rfl⟩ := hw
    have hI : zI D tc (zA [] [] s.heap.size) s.heap [] L κ g3 H locs := hI
    obtain rfl : w2 = 1 := Value.int.inj (hw2.symm.trans hcd)
    refine lv_iload hx hb dL_law_1479 (lv_at hl 1 rfl) ?_
    refine lv_icmp_eq (tgt := 1486) hx hb dL_law_1481 (by decide) (fun _ => ?_) (fun hne => absurd rfl hne)
    refine lv_iload hx hb dL_law_1486 (lv_at hl 1 rfl) ?_
    refine lv_if_ne (tgt := 1510) hx hb dL_law_1488 (by decide) (fun _ => ?_) (fun h9 => absurd h9 (by decide))
    refine lv_goto (tgt := 2252) hx hb dL_law_1510 (by decide) ?_
    have hl := lv_sub hl [2, 3, 4, 5, 6, 7] (l' := [(0, .ref b), (1, .ref px), (2, .ref pm), (3, .ref po), (4, .ref pd), (5, .int (nI (4 * k)))]) rfl
    refine W.widen (k := 60 + 20 * (k + 1) + 37 * t) (n := 400 + 120 * (k + 1) + 162 * t) (by omega) (by omega) ?_
    refine W.base ?_
    exact hN s.drawn L κ g3 _ _ _ _ (Drawn.sameBut.refl _ _) hJ hko hkd hI hl

set_option maxHeartbeats 4000000 in
set_option maxRecDepth 100000 in
theorem k_killFan (l : Launch) (hnt : l.stackTraces = false) {p : Program} {e : Env} {s : State} {m : MethodId} {below : List Frame} {meth : Method} {c : Code} {H : Heap} {locs : List Loc} {Q : State → Prop} {D : va_G} {tc : Nat → ClassId} {z0 b N : Nat} {xs : Nat → Int32} {px pm po pd rq co sp aC aT t k : Nat} {L : List Nat} {κ : Nat → Nat} {g : Nat → Nat → Value} {ls : Array Slot} (C : lwC p s m meth c b N xs D tc z0) (hk : 4 * k + 4 ≤ N) (hN8 : N ≤ 2048) (hJ : zJ κ g z0 px pm rq co sp aC aT t) (h0 : (∀ j, g aC j = .null) ∧ ∀ j, g aT j = .null) (hko : κ po = 29) (hkd : κ pd = 30) (hI : zI D tc (zA [] [] s.heap.size) s.heap [] L κ g H locs) (hl : lv_has ls 9 [(0, .ref b), (1, .ref px), (2, .ref pm), (3, .ref po), (4, .ref pd), (5, .int (nI (4 * k)))]) (hN : lwN p l e s m below meth c b D tc z0 px pm po pd rq co sp aC aT k Q) : W p l e room_1 s m #[Value.ref b] below meth c H locs (60 + 20 * k + 37 * t) (400 + 120 * k + 162 * t) Q (F0 m 1526 ls []) := by
  obtain ⟨hx, hb, hml, hown, hts, hK, hE, hX, hbl⟩ := C
  have hbA : ¬ zA [] [] s.heap.size b := fun q => by rcases q with q | q | q; exact absurd q List.not_mem_nil; exact absurd q List.not_mem_nil; exact absurd hbl (Nat.not_lt.mpr q)
  have htb9 : t ≤ 9999 := hJ.1.2.2.1.2
  refine lv_aload_n hx hb dL_law_1526 rfl (lv_at hl 1 rfl) ?_
  refine lv_aload_n hx hb dL_law_1527 rfl (lv_at hl 0 rfl) ?_
  refine lv_iload hx hb dL_law_1528 (lv_at hl 5 rfl) ?_
  refine lv_iconst (v := 1) hx hb dL_law_1530 (by decide) ?_
  refine lv_iadd hx hb dL_law_1531 ?_
  rw [show nI (4 * k) + 1 = nI (4 * k + 1) from nI_add _ _]
  refine va_sld hx hb hX hbl hbA hI.2.1 (vp_in_nI (show 4 * k + 1 < N from by omega) (by omega)) dL_law_1532 ?_
  refine lv_if_eq (tgt := 1540) hx hb dL_law_1533 (by decide) (fun cb => ?_) (fun cb => ?_)
  · skip
    refine lv_iconst (v := 0) hx hb dL_law_1540 (by decide) ?_
    obtain ⟨⟨⟨hkx, hkm, hkq, hkO, hkS, hkC, hkT⟩, ⟨hR, hO, hS9, hC, hT⟩, ⟨htM, htb⟩, lc, eC, nC, mC, cf, lt, eT, nT, mT, tf, hMo, hCo, hTh⟩, a0, a1, a2, a3, a4, a5, a6, a7⟩ := id hJ
    refine z_ci hI (va_runV (As := [.int 0]) (rest := []) ⟨hx, hb, hml, hown, hts⟩ (c_X8_killFan l D tc z0 _ κ g _ px hkx 0 (Or.inl rfl) co hO) (cwV 1 hts gL_law_X8_killFan rfl rfl rfl (by decide +kernel) ⟨Nat.le_of_ble_eq_true rfl, Nat.le_of_ble_eq_true rfl⟩) (z_preV (Xc := []) hK hE hI [] rfl rfl (z_recv hK hI hkx rfl rfl)) rfl rfl hl.1 rfl (lv_room (Nat.le_of_ble_eq_true rfl)) dL_law_1541 ⟨(show 60 + 20 * k + 37 * t + 0 ≤ 746514 from by omega), (show 400 + 120 * k + 162 * t + 0 ≤ 6862693 from by omega)⟩) (fun v u H locs hw hI => ?_)
    obtain ⟨hr1, -, rfl⟩ := hw
    have n_px_pm : px ≠ pm := z_apart hkx hkm (by decide)
    have n_px_rq : px ≠ rq := z_apart hkx hkq (by decide)
    have n_px_co : px ≠ co := z_apart hkx hkO (by decide)
    have n_px_sp : px ≠ sp := z_apart hkx hkS (by decide)
    have n_px_po : px ≠ po := z_apart hkx hko (by decide)
    have n_pm_px : pm ≠ px := z_apart hkm hkx (by decide)
    have n_pm_rq : pm ≠ rq := z_apart hkm hkq (by decide)
    have n_pm_co : pm ≠ co := z_apart hkm hkO (by decide)
    have n_pm_sp : pm ≠ sp := z_apart hkm hkS (by decide)
    have n_pm_po : pm ≠ po := z_apart hkm hko (by decide)
    have n_rq_px : rq ≠ px := z_apart hkq hkx (by decide)
    have n_rq_pm : rq ≠ pm := z_apart hkq hkm (by decide)
    have n_rq_co : rq ≠ co := z_apart hkq hkO (by decide)
    have n_rq_sp : rq ≠ sp := z_apart hkq hkS (by decide)
    have n_rq_po : rq ≠ po := z_apart hkq hko (by decide)
    have n_co_px : co ≠ px := z_apart hkO hkx (by decide)
    have n_co_pm : co ≠ pm := z_apart hkO hkm (by decide)
    have n_co_rq : co ≠ rq := z_apart hkO hkq (by decide)
    have n_co_sp : co ≠ sp := z_apart hkO hkS (by decide)
    have n_co_po : co ≠ po := z_apart hkO hko (by decide)
    have n_sp_px : sp ≠ px := z_apart hkS hkx (by decide)
    have n_sp_pm : sp ≠ pm := z_apart hkS hkm (by decide)
    have n_sp_rq : sp ≠ rq := z_apart hkS hkq (by decide)
    have n_sp_co : sp ≠ co := z_apart hkS hkO (by decide)
    have n_sp_po : sp ≠ po := z_apart hkS hko (by decide)
    have n_po_px : po ≠ px := z_apart hko hkx (by decide)
    have n_po_pm : po ≠ pm := z_apart hko hkm (by decide)
    have n_po_rq : po ≠ rq := z_apart hko hkq (by decide)
    have n_po_co : po ≠ co := z_apart hko hkO (by decide)
    have n_po_sp : po ≠ sp := z_apart hko hkS (by decide)
    have hz : zLc κ (zup g co 4 (.int 0)) z0 px pm rq co sp aC aT t := hJ.1.up hkO (by decide)
    have hI : zI D tc (zA [] [] s.heap.size) s.heap [] L κ (zup g co 4 (.int 0)) H locs := hI
    obtain ⟨g1, hg1⟩ : ∃ x, x = (zup g co 4 (.int 0)) := ⟨_, rfl⟩
    rw [← hg1] at hI hz
    have hgm : ∀ j, g1 pm j = g pm j := fun j => by subst hg1; simp [zup, n_px_pm, n_px_rq, n_px_co, n_px_sp, n_px_po, n_pm_px, n_pm_rq, n_pm_co, n_pm_sp, n_pm_po, n_rq_px, n_rq_pm, n_rq_co, n_rq_sp, n_rq_po, n_co_px, n_co_pm, n_co_rq, n_co_sp, n_co_po, n_sp_px, n_sp_pm, n_sp_rq, n_sp_co, n_sp_po, n_po_px, n_po_pm, n_po_rq, n_po_co, n_po_sp]
    refine lv_aload_n hx hb dL_law_1544 rfl (lv_at hl 2 rfl) ?_
    refine lv_aload_n hx hb dL_law_1545 rfl (lv_at hl 0 rfl) ?_
    refine lv_iload hx hb dL_law_1546 (lv_at hl 5 rfl) ?_
    refine lv_iconst (v := 1) hx hb dL_law_1548 (by decide) ?_
    refine lv_iadd hx hb dL_law_1549 ?_
    rw [show nI (4 * k) + 1 = nI (4 * k + 1) from nI_add _ _]
    refine va_sld hx hb hX hbl hbA hI.2.1 (vp_in_nI (show 4 * k + 1 < N from by omega) (by omega)) dL_law_1550 ?_
    refine lv_if_eq (tgt := 1558) hx hb dL_law_1551 (by decide) (fun _ => ?_) (fun q => absurd cb q)
    refine lv_iconst (v := 0) hx hb dL_law_1558 (by decide) ?_
    obtain ⟨⟨hkx, hkm, hkq, hkO, hkS, hkC, hkT⟩, ⟨hR, hO, hS9, hC, hT⟩, ⟨htM, htb⟩, lc, eC, nC, mC, cf, lt, eT, nT, mT, tf, hMo, hCo, hTh⟩ := id hz
    refine z_ci hI (va_runV (As := [.int 0]) (rest := [.int v]) ⟨hx, hb, hml, hown, hts⟩ (c_X11_killFan l D tc z0 _ κ g1 _ pm hkm 0 (Or.inl rfl)  ) (cwV 1 hts gL_law_X11_killFan rfl rfl rfl (by decide +kernel) ⟨Nat.le_of_ble_eq_true rfl, Nat.le_of_ble_eq_true rfl⟩) (z_preV (Xc := []) hK hE hI [] rfl rfl (z_recv hK hI hkm rfl rfl)) rfl rfl hl.1 rfl (lv_room (Nat.le_of_ble_eq_true rfl)) dL_law_1559 ⟨(show 60 + 20 * k + 37 * t + 0 + 0 ≤ 746514 from by omega), (show 400 + 120 * k + 162 * t + 0 + 0 ≤ 6862693 from by omega)⟩) (fun w u H locs hw hI => ?_)
    obtain ⟨hr2, -, rfl⟩ := hw
    have hJ : zJ κ (zup (zup g1 pm 12 (.int 0)) pm 25 (.int 0)) z0 px pm rq co sp aC aT t := ⟨(hz.upM (by decide)).upM (by decide), (by unfold zAg; subst hg1; simp [zup, n_px_pm, n_px_rq, n_px_co, n_px_sp, n_px_po, n_pm_px, n_pm_rq, n_pm_co, n_pm_sp, n_pm_po, n_rq_px, n_rq_pm, n_rq_co, n_rq_sp, n_rq_po, n_co_px, n_co_pm, n_co_rq, n_co_sp, n_co_po, n_sp_px, n_sp_pm, n_sp_rq, n_sp_co, n_sp_po, n_po_px, n_po_pm, n_po_rq, n_po_co, n_po_sp, a0, a1, a2, a3, a4, a5, a6, a7])⟩
    have hI : zI D tc (zA [] [] s.heap.size) s.heap [] L κ (zup (zup g1 pm 12 (.int 0)) pm 25 (.int 0)) H locs := hI
    generalize (zup (zup g1 pm 12 (.int 0)) pm 25 (.int 0)) = g3 at hI hJ
    refine lv_icmp_eq (tgt := 2252) hx hb dL_law_1562 (by decide) (fun _ => ?_) (fun hne => absurd (Value.int.inj (hr1.symm.trans (a6.trans ((hgm 25).symm.trans hr2)))) hne)
    have hl := lv_sub hl [0, 1, 2, 3, 4, 5] (l' := [(0, .ref b), (1, .ref px), (2, .ref pm), (3, .ref po), (4, .ref pd), (5, .int (nI (4 * k)))]) rfl
    refine W.widen (k := 60 + 20 * (k + 1) + 37 * t) (n := 400 + 120 * (k + 1) + 162 * t) (by omega) (by omega) ?_
    refine W.base ?_
    exact hN s.drawn L κ g3 _ _ _ _ (Drawn.sameBut.refl _ _) hJ hko hkd hI hl
  · skip
    refine lv_iconst (v := 1) hx hb dL_law_1536 (by decide) ?_
    refine lv_goto (tgt := 1541) hx hb dL_law_1537 (by decide) ?_
    obtain ⟨⟨⟨hkx, hkm, hkq, hkO, hkS, hkC, hkT⟩, ⟨hR, hO, hS9, hC, hT⟩, ⟨htM, htb⟩, lc, eC, nC, mC, cf, lt, eT, nT, mT, tf, hMo, hCo, hTh⟩, a0, a1, a2, a3, a4, a5, a6, a7⟩ := id hJ
    refine z_ci hI (va_runV (As := [.int 1]) (rest := []) ⟨hx, hb, hml, hown, hts⟩ (c_X8_killFan l D tc z0 _ κ g _ px hkx 1 (Or.inr rfl) co hO) (cwV 1 hts gL_law_X8_killFan rfl rfl rfl (by decide +kernel) ⟨Nat.le_of_ble_eq_true rfl, Nat.le_of_ble_eq_true rfl⟩) (z_preV (Xc := []) hK hE hI [] rfl rfl (z_recv hK hI hkx rfl rfl)) rfl rfl hl.1 rfl (lv_room (Nat.le_of_ble_eq_true rfl)) dL_law_1541 ⟨(show 60 + 20 * k + 37 * t + 0 ≤ 746514 from by omega), (show 400 + 120 * k + 162 * t + 0 ≤ 6862693 from by omega)⟩) (fun v u H locs hw hI => ?_)
    obtain ⟨hr1, -, rfl⟩ := hw
    have n_px_pm : px ≠ pm := z_apart hkx hkm (by decide)
    have n_px_rq : px ≠ rq := z_apart hkx hkq (by decide)
    have n_px_co : px ≠ co := z_apart hkx hkO (by decide)
    have n_px_sp : px ≠ sp := z_apart hkx hkS (by decide)
    have n_px_po : px ≠ po := z_apart hkx hko (by decide)
    have n_pm_px : pm ≠ px := z_apart hkm hkx (by decide)
    have n_pm_rq : pm ≠ rq := z_apart hkm hkq (by decide)
    have n_pm_co : pm ≠ co := z_apart hkm hkO (by decide)
    have n_pm_sp : pm ≠ sp := z_apart hkm hkS (by decide)
    have n_pm_po : pm ≠ po := z_apart hkm hko (by decide)
    have n_rq_px : rq ≠ px := z_apart hkq hkx (by decide)
    have n_rq_pm : rq ≠ pm := z_apart hkq hkm (by decide)
    have n_rq_co : rq ≠ co := z_apart hkq hkO (by decide)
    have n_rq_sp : rq ≠ sp := z_apart hkq hkS (by decide)
    have n_rq_po : rq ≠ po := z_apart hkq hko (by decide)
    have n_co_px : co ≠ px := z_apart hkO hkx (by decide)
    have n_co_pm : co ≠ pm := z_apart hkO hkm (by decide)
    have n_co_rq : co ≠ rq := z_apart hkO hkq (by decide)
    have n_co_sp : co ≠ sp := z_apart hkO hkS (by decide)
    have n_co_po : co ≠ po := z_apart hkO hko (by decide)
    have n_sp_px : sp ≠ px := z_apart hkS hkx (by decide)
    have n_sp_pm : sp ≠ pm := z_apart hkS hkm (by decide)
    have n_sp_rq : sp ≠ rq := z_apart hkS hkq (by decide)
    have n_sp_co : sp ≠ co := z_apart hkS hkO (by decide)
    have n_sp_po : sp ≠ po := z_apart hkS hko (by decide)
    have n_po_px : po ≠ px := z_apart hko hkx (by decide)
    have n_po_pm : po ≠ pm := z_apart hko hkm (by decide)
    have n_po_rq : po ≠ rq := z_apart hko hkq (by decide)
    have n_po_co : po ≠ co := z_apart hko hkO (by decide)
    have n_po_sp : po ≠ sp := z_apart hko hkS (by decide)
    have hz : zLc κ (zup g co 4 (.int 1)) z0 px pm rq co sp aC aT t := hJ.1.up hkO (by decide)
    have hI : zI D tc (zA [] [] s.heap.size) s.heap [] L κ (zup g co 4 (.int 1)) H locs := hI
    obtain ⟨g1, hg1⟩ : ∃ x, x = (zup g co 4 (.int 1)) := ⟨_, rfl⟩
    rw [← hg1] at hI hz
    have hgm : ∀ j, g1 pm j = g pm j := fun j => by subst hg1; simp [zup, n_px_pm, n_px_rq, n_px_co, n_px_sp, n_px_po, n_pm_px, n_pm_rq, n_pm_co, n_pm_sp, n_pm_po, n_rq_px, n_rq_pm, n_rq_co, n_rq_sp, n_rq_po, n_co_px, n_co_pm, n_co_rq, n_co_sp, n_co_po, n_sp_px, n_sp_pm, n_sp_rq, n_sp_co, n_sp_po, n_po_px, n_po_pm, n_po_rq, n_po_co, n_po_sp]
    refine lv_aload_n hx hb dL_law_1544 rfl (lv_at hl 2 rfl) ?_
    refine lv_aload_n hx hb dL_law_1545 rfl (lv_at hl 0 rfl) ?_
    refine lv_iload hx hb dL_law_1546 (lv_at hl 5 rfl) ?_
    refine lv_iconst (v := 1) hx hb dL_law_1548 (by decide) ?_
    refine lv_iadd hx hb dL_law_1549 ?_
    rw [show nI (4 * k) + 1 = nI (4 * k + 1) from nI_add _ _]
    refine va_sld hx hb hX hbl hbA hI.2.1 (vp_in_nI (show 4 * k + 1 < N from by omega) (by omega)) dL_law_1550 ?_
    refine lv_if_eq (tgt := 1558) hx hb dL_law_1551 (by decide) (fun q => absurd q cb) (fun _ => ?_)
    refine lv_iconst (v := 1) hx hb dL_law_1554 (by decide) ?_
    refine lv_goto (tgt := 1559) hx hb dL_law_1555 (by decide) ?_
    obtain ⟨⟨hkx, hkm, hkq, hkO, hkS, hkC, hkT⟩, ⟨hR, hO, hS9, hC, hT⟩, ⟨htM, htb⟩, lc, eC, nC, mC, cf, lt, eT, nT, mT, tf, hMo, hCo, hTh⟩ := id hz
    refine z_ci hI (va_runV (As := [.int 1]) (rest := [.int v]) ⟨hx, hb, hml, hown, hts⟩ (c_X11_killFan l D tc z0 _ κ g1 _ pm hkm 1 (Or.inr rfl)  ) (cwV 1 hts gL_law_X11_killFan rfl rfl rfl (by decide +kernel) ⟨Nat.le_of_ble_eq_true rfl, Nat.le_of_ble_eq_true rfl⟩) (z_preV (Xc := []) hK hE hI [] rfl rfl (z_recv hK hI hkm rfl rfl)) rfl rfl hl.1 rfl (lv_room (Nat.le_of_ble_eq_true rfl)) dL_law_1559 ⟨(show 60 + 20 * k + 37 * t + 0 + 0 ≤ 746514 from by omega), (show 400 + 120 * k + 162 * t + 0 + 0 ≤ 6862693 from by omega)⟩) (fun w u H locs hw hI => ?_)
    obtain ⟨hr2, -, rfl⟩ := hw
    have hJ : zJ κ (zup (zup g1 pm 12 (.int 0)) pm 25 (.int 1)) z0 px pm rq co sp aC aT t := ⟨(hz.upM (by decide)).upM (by decide), (by unfold zAg; subst hg1; simp [zup, n_px_pm, n_px_rq, n_px_co, n_px_sp, n_px_po, n_pm_px, n_pm_rq, n_pm_co, n_pm_sp, n_pm_po, n_rq_px, n_rq_pm, n_rq_co, n_rq_sp, n_rq_po, n_co_px, n_co_pm, n_co_rq, n_co_sp, n_co_po, n_sp_px, n_sp_pm, n_sp_rq, n_sp_co, n_sp_po, n_po_px, n_po_pm, n_po_rq, n_po_co, n_po_sp, a0, a1, a2, a3, a4, a5, a6, a7])⟩
    have hI : zI D tc (zA [] [] s.heap.size) s.heap [] L κ (zup (zup g1 pm 12 (.int 0)) pm 25 (.int 1)) H locs := hI
    generalize (zup (zup g1 pm 12 (.int 0)) pm 25 (.int 1)) = g3 at hI hJ
    refine lv_icmp_eq (tgt := 2252) hx hb dL_law_1562 (by decide) (fun _ => ?_) (fun hne => absurd (Value.int.inj (hr1.symm.trans (a6.trans ((hgm 25).symm.trans hr2)))) hne)
    have hl := lv_sub hl [0, 1, 2, 3, 4, 5] (l' := [(0, .ref b), (1, .ref px), (2, .ref pm), (3, .ref po), (4, .ref pd), (5, .int (nI (4 * k)))]) rfl
    refine W.widen (k := 60 + 20 * (k + 1) + 37 * t) (n := 400 + 120 * (k + 1) + 162 * t) (by omega) (by omega) ?_
    refine W.base ?_
    exact hN s.drawn L κ g3 _ _ _ _ (Drawn.sameBut.refl _ _) hJ hko hkd hI hl

set_option maxHeartbeats 4000000 in
set_option maxRecDepth 100000 in
theorem k_heatUp (l : Launch) (hnt : l.stackTraces = false) {p : Program} {e : Env} {s : State} {m : MethodId} {below : List Frame} {meth : Method} {c : Code} {H : Heap} {locs : List Loc} {Q : State → Prop} {D : va_G} {tc : Nat → ClassId} {z0 b N : Nat} {xs : Nat → Int32} {px pm po pd rq co sp aC aT t k : Nat} {L : List Nat} {κ : Nat → Nat} {g : Nat → Nat → Value} {ls : Array Slot} (C : lwC p s m meth c b N xs D tc z0) (hk : 4 * k + 4 ≤ N) (hN8 : N ≤ 2048) (hJ : zJ κ g z0 px pm rq co sp aC aT t) (h0 : (∀ j, g aC j = .null) ∧ ∀ j, g aT j = .null) (hko : κ po = 29) (hkd : κ pd = 30) (hI : zI D tc (zA [] [] s.heap.size) s.heap [] L κ g H locs) (hl : lv_has ls 9 [(0, .ref b), (1, .ref px), (2, .ref pm), (3, .ref po), (4, .ref pd), (5, .int (nI (4 * k)))]) (hN : lwN p l e s m below meth c b D tc z0 px pm po pd rq co sp aC aT k Q) : W p l e room_1 s m #[Value.ref b] below meth c H locs (60 + 20 * k + 37 * t) (400 + 120 * k + 162 * t) Q (F0 m 1567 ls []) := by
  obtain ⟨hx, hb, hml, hown, hts, hK, hE, hX, hbl⟩ := C
  have hbA : ¬ zA [] [] s.heap.size b := fun q => by rcases q with q | q | q; exact absurd q List.not_mem_nil; exact absurd q List.not_mem_nil; exact absurd hbl (Nat.not_lt.mpr q)
  have htb9 : t ≤ 9999 := hJ.1.2.2.1.2
  refine lv_aload_n hx hb dL_law_1567 rfl (lv_at hl 1 rfl) ?_
  refine lv_aload_n hx hb dL_law_1568 rfl (lv_at hl 0 rfl) ?_
  refine lv_iload hx hb dL_law_1569 (lv_at hl 5 rfl) ?_
  refine lv_iconst (v := 1) hx hb dL_law_1571 (by decide) ?_
  refine lv_iadd hx hb dL_law_1572 ?_
  rw [show nI (4 * k) + 1 = nI (4 * k + 1) from nI_add _ _]
  refine va_sld hx hb hX hbl hbA hI.2.1 (vp_in_nI (show 4 * k + 1 < N from by omega) (by omega)) dL_law_1573 ?_
  refine lv_aload_n hx hb dL_law_1574 rfl (lv_at hl 0 rfl) ?_
  refine lv_iload hx hb dL_law_1575 (lv_at hl 5 rfl) ?_
  refine lv_iconst (v := 2) hx hb dL_law_1577 (by decide) ?_
  refine lv_iadd hx hb dL_law_1578 ?_
  rw [show nI (4 * k) + 2 = nI (4 * k + 2) from nI_add _ _]
  refine va_sld hx hb hX hbl hbA hI.2.1 (vp_in_nI (show 4 * k + 2 < N from by omega) (by omega)) dL_law_1579 ?_
  refine lv_aload_n hx hb dL_law_1580 rfl (lv_at hl 3 rfl) ?_
  obtain ⟨⟨⟨hkx, hkm, hkq, hkO, hkS, hkC, hkT⟩, ⟨hR, hO, hS9, hC, hT⟩, ⟨htM, htb⟩, lc, eC, nC, mC, cf, lt, eT, nT, mT, tf, hMo, hCo, hTh⟩, a0, a1, a2, a3, a4, a5, a6, a7⟩ := id hJ
  refine z_xi hI (vx_runSX (As := [.ref px, .int (xs (nI (4 * k + 1)).toNatClampNeg), .int (xs (nI (4 * k + 2)).toNatClampNeg), .ref po]) (rest := []) ⟨hx, hb, hml, hown, hts⟩ (c_L_heatUp l hnt D tc z0 _ κ g _ px hkx (xs (nI (4 * k + 1)).toNatClampNeg) (xs (nI (4 * k + 2)).toNatClampNeg) po hko aC hC) (vx_cwSW 4 hts gL_law_L_heatUp rfl rfl rfl (by decide +kernel) ⟨Nat.le_of_ble_eq_true rfl, Nat.le_of_ble_eq_true rfl⟩) (z_pre (Xc := []) hK hE hI [] rfl rfl) rfl rfl hl.1 rfl (lv_room (Nat.le_of_ble_eq_true rfl)) dL_law_1581 ⟨(show 60 + 20 * k + 37 * t + 2 ≤ 746514 from by omega), (show 400 + 120 * k + 162 * t + 12 ≤ 6862693 from by omega)⟩) (fun E ce q9 u H locs hw hI he1 he2 he3 => hw.elim) (fun v u H locs hw hI => ?_)
  have hn0 : nC = 0 := hCo.zero h0.1
  have hno : ∀ x, ¬ zHas g aC 6 x := fun x q => by obtain ⟨i9, hi9, -⟩ := (hCo.has hMo.bC (by decide)).mp q; omega
  rcases hw with ⟨rfl, r1, u1, v9, hp, hv9, hu⟩ | ⟨rfl, hp⟩ | ⟨rfl, hp⟩ | ⟨rfl, hp⟩
  · exact absurd hp.1 (hno _)
  · rcases hp with ⟨⟨_, q1⟩ | ⟨q0, _⟩ | ⟨q0, _⟩, hp⟩
    · cases hp
      refine lv_istore (lv' := [(6, .int 1), (0, .ref b), (1, .ref px), (2, .ref pm), (3, .ref po), (4, .ref pd), (5, .int (nI (4 * k)))]) hx hb dL_law_1584 hl (by decide) rfl (fun ls hl => ?_)
      refine lv_aload_n hx hb dL_law_1586 rfl (lv_at hl 3 rfl) ?_
      refine lv_aload_n hx hb dL_law_1587 rfl (lv_at hl 1 rfl) ?_
      refine lv_iload hx hb dL_law_1588 (lv_at hl 6 rfl) ?_
      refine lv_iconst (v := 1) hx hb dL_law_1590 (by decide) ?_
      refine lv_iadd hx hb dL_law_1591 ?_
      rw [show nI (4 * k) + 1 = nI (4 * k + 1) from nI_add _ _]
      refine va_sld hx hb hX hbl hbA hI.2.1 (vp_in_nI (show 4 * k + 1 < N from by omega) (by omega)) dL_law_1592 ?_
      refine lv_aload_n hx hb dL_law_1593 rfl (lv_at hl 1 rfl) ?_
      refine lv_iload hx hb dL_law_1594 (lv_at hl 6 rfl) ?_
      refine lv_iconst (v := 2) hx hb dL_law_1596 (by decide) ?_
      refine lv_iadd hx hb dL_law_1597 ?_
      rw [show nI (4 * k) + 2 = nI (4 * k + 2) from nI_add _ _]
      refine va_sld hx hb hX hbl hbA hI.2.1 (vp_in_nI (show 4 * k + 2 < N from by omega) (by omega)) dL_law_1598 ?_
      refine z_ci hI (va_runV (As := [.int (xs (nI (4 * k + 1)).toNatClampNeg), .int (xs (nI (4 * k + 2)).toNatClampNeg)]) (rest := []) ⟨hx, hb, hml, hown, hts⟩ (c_X11_heatUp l D tc z0 _ κ g _ pm hkm (xs (nI (4 * k + 1)).toNatClampNeg) (xs (nI (4 * k + 2)).toNatClampNeg) lc eC nC mC cf lt eT nT mT tf hMo) (cwV 2 hts gL_law_X11_heatUp rfl rfl rfl (by decide +kernel) ⟨Nat.le_of_ble_eq_true rfl, Nat.le_of_ble_eq_true rfl⟩) (z_preV (Xc := []) hK hE hI [] rfl rfl (z_recv hK hI hkm rfl rfl)) rfl rfl hl.1 rfl (lv_room (Nat.le_of_ble_eq_true rfl)) dL_law_1599 ⟨(show 60 + 20 * k + 37 * t + 2 + 0 ≤ 746514 from by omega), (show 400 + 120 * k + 162 * t + 12 + 0 ≤ 6862693 from by omega)⟩) (fun w u H locs hw hI => ?_)
      obtain ⟨v8, hv8, rfl⟩ := hw
      obtain rfl : v8 = 1 := hv8 hn0
      have hJ : zJ κ (zup g pm 12 (.int 1)) z0 px pm rq co sp aC aT t := hJ.upM (by decide)
      have hI : zI D tc (zA [] [] s.heap.size) s.heap [] L κ (zup g pm 12 (.int 1)) H locs := hI
      have hcd : (zup g pm 12 (.int 1)) pm 12 = .int 1 := zup_self _ _ _ _
      generalize (zup g pm 12 (.int 1)) = g3 at hI hJ hcd
      refine lv_istore (lv' := [(7, .int w), (6, .int 1), (0, .ref b), (1, .ref px), (2, .ref pm), (3, .ref po), (4, .ref pd), (5, .int (nI (4 * k)))]) hx hb dL_law_1602 hl (by decide) rfl (fun ls hl => ?_)
      refine lv_aload_n hx hb dL_law_1604 rfl (lv_at hl 4 rfl) ?_
      refine z_ci hI (va_runV (As := []) (rest := []) ⟨hx, hb, hml, hown, hts⟩ (c_X11_thrown l D tc z0 _ κ g3 _ pm hkm) (cwV 0 hts gL_law_X11_thrown rfl rfl rfl (by decide +kernel) ⟨Nat.le_of_ble_eq_true rfl, Nat.le_of_ble_eq_true rfl⟩) (z_preV (Xc := []) hK hE hI [] rfl rfl (z_recv hK hI hkm rfl rfl)) rfl rfl hl.1 rfl (lv_room (Nat.le_of_ble_eq_true rfl)) dL_law_1605 ⟨(show 60 + 20 * k + 37 * t + 2 + 0 + 0 ≤ 746514 from by omega), (show 400 + 120 * k + 162 * t + 12 + 0 + 0 ≤ 6862693 from by omega)⟩) (fun w2 u H locs hw hI => ?_)
      obtain ⟨hw2, rfl⟩ := hw
      have hI : zI D tc (zA [] [] s.heap.size) s.heap [] L κ g3 H locs := hI
      obtain rfl : w2 = 1 := Value.int.inj (hw2.symm.trans hcd)
      refine lv_iload hx hb dL_law_1608 (lv_at hl 1 rfl) ?_
      refine lv_icmp_eq (tgt := 1615) hx hb dL_law_1610 (by decide) (fun _ => ?_) (fun hne => absurd rfl hne)
      refine lv_iload hx hb dL_law_1615 (lv_at hl 1 rfl) ?_
      refine lv_if_ne (tgt := 1632) hx hb dL_law_1617 (by decide) (fun _ => ?_) (fun h9 => absurd h9 (by decide))
      refine lv_goto (tgt := 2252) hx hb dL_law_1632 (by decide) ?_
      have hl := lv_sub hl [2, 3, 4, 5, 6, 7] (l' := [(0, .ref b), (1, .ref px), (2, .ref pm), (3, .ref po), (4, .ref pd), (5, .int (nI (4 * k)))]) rfl
      refine W.widen (k := 60 + 20 * (k + 1) + 37 * t) (n := 400 + 120 * (k + 1) + 162 * t) (by omega) (by omega) ?_
      refine W.base ?_
      exact hN s.drawn L κ g3 _ _ _ _ (Drawn.sameBut.refl _ _) hJ hko hkd hI hl
    · exact absurd q0 (by decide)
    · exact absurd q0 (by decide)
  · rcases hp with ⟨⟨q0, _⟩ | ⟨_, q1⟩ | ⟨q0, _⟩, hp⟩
    · exact absurd q0 (by decide)
    · exact absurd q1 (hno _)
    · exact absurd q0 (by decide)
  · rcases hp with ⟨⟨q0, _⟩ | ⟨q0, _⟩ | ⟨_, q1⟩, hp⟩
    · exact absurd q0 (by decide)
    · exact absurd q0 (by decide)
    · exact absurd q1 (hno _)

set_option maxHeartbeats 4000000 in
set_option maxRecDepth 100000 in
theorem k_wall (l : Launch) (hnt : l.stackTraces = false) {p : Program} {e : Env} {s : State} {m : MethodId} {below : List Frame} {meth : Method} {c : Code} {H : Heap} {locs : List Loc} {Q : State → Prop} {D : va_G} {tc : Nat → ClassId} {z0 b N : Nat} {xs : Nat → Int32} {px pm po pd rq co sp aC aT t k : Nat} {L : List Nat} {κ : Nat → Nat} {g : Nat → Nat → Value} {ls : Array Slot} (C : lwC p s m meth c b N xs D tc z0) (hk : 4 * k + 4 ≤ N) (hN8 : N ≤ 2048) (hJ : zJ κ g z0 px pm rq co sp aC aT t) (h0 : (∀ j, g aC j = .null) ∧ ∀ j, g aT j = .null) (hko : κ po = 29) (hkd : κ pd = 30) (hI : zI D tc (zA [] [] s.heap.size) s.heap [] L κ g H locs) (hl : lv_has ls 9 [(0, .ref b), (1, .ref px), (2, .ref pm), (3, .ref po), (4, .ref pd), (5, .int (nI (4 * k)))]) (hN : lwN p l e s m below meth c b D tc z0 px pm po pd rq co sp aC aT k Q) : W p l e room_1 s m #[Value.ref b] below meth c H locs (60 + 20 * k + 37 * t) (400 + 120 * k + 162 * t) Q (F0 m 1635 ls []) := by
  obtain ⟨hx, hb, hml, hown, hts, hK, hE, hX, hbl⟩ := C
  have hbA : ¬ zA [] [] s.heap.size b := fun q => by rcases q with q | q | q; exact absurd q List.not_mem_nil; exact absurd q List.not_mem_nil; exact absurd hbl (Nat.not_lt.mpr q)
  have htb9 : t ≤ 9999 := hJ.1.2.2.1.2
  refine lv_aload_n hx hb dL_law_1635 rfl (lv_at hl 1 rfl) ?_
  refine lv_aload_n hx hb dL_law_1636 rfl (lv_at hl 0 rfl) ?_
  refine lv_iload hx hb dL_law_1637 (lv_at hl 5 rfl) ?_
  refine lv_iconst (v := 1) hx hb dL_law_1639 (by decide) ?_
  refine lv_iadd hx hb dL_law_1640 ?_
  rw [show nI (4 * k) + 1 = nI (4 * k + 1) from nI_add _ _]
  refine va_sld hx hb hX hbl hbA hI.2.1 (vp_in_nI (show 4 * k + 1 < N from by omega) (by omega)) dL_law_1641 ?_
  refine lv_aload_n hx hb dL_law_1642 rfl (lv_at hl 3 rfl) ?_
  obtain ⟨⟨⟨hkx, hkm, hkq, hkO, hkS, hkC, hkT⟩, ⟨hR, hO, hS9, hC, hT⟩, ⟨htM, htb⟩, lc, eC, nC, mC, cf, lt, eT, nT, mT, tf, hMo, hCo, hTh⟩, a0, a1, a2, a3, a4, a5, a6, a7⟩ := id hJ
  refine z_xi hI (vx_runSX (As := [.ref px, .int (xs (nI (4 * k + 1)).toNatClampNeg), .ref po]) (rest := []) ⟨hx, hb, hml, hown, hts⟩ (c_L_wall l hnt D tc z0 _ κ g _ px hkx (xs (nI (4 * k + 1)).toNatClampNeg) po hko sp hS9) (vx_cwSW 3 hts gL_law_L_wall rfl rfl rfl (by decide +kernel) ⟨Nat.le_of_ble_eq_true rfl, Nat.le_of_ble_eq_true rfl⟩) (z_pre (Xc := []) hK hE hI [] rfl rfl) rfl rfl hl.1 rfl (lv_room (Nat.le_of_ble_eq_true rfl)) dL_law_1643 ⟨(show 60 + 20 * k + 37 * t + 1 ≤ 746514 from by omega), (show 400 + 120 * k + 162 * t + 6 ≤ 6862693 from by omega)⟩) (fun E ce q9 u H locs hw hI he1 he2 he3 => hw.elim) (fun v u H locs hw hI => ?_)
  rcases hw with ⟨rfl, r1, u1, v9, hp, hv9, hu⟩ | ⟨rfl, hp⟩
  · obtain ⟨q4, q1, hp⟩ := hp
    cases hp
    cases hu
    have n_px_pm : px ≠ pm := z_apart hkx hkm (by decide)
    have n_px_rq : px ≠ rq := z_apart hkx hkq (by decide)
    have n_px_co : px ≠ co := z_apart hkx hkO (by decide)
    have n_px_sp : px ≠ sp := z_apart hkx hkS (by decide)
    have n_px_po : px ≠ po := z_apart hkx hko (by decide)
    have n_pm_px : pm ≠ px := z_apart hkm hkx (by decide)
    have n_pm_rq : pm ≠ rq := z_apart hkm hkq (by decide)
    have n_pm_co : pm ≠ co := z_apart hkm hkO (by decide)
    have n_pm_sp : pm ≠ sp := z_apart hkm hkS (by decide)
    have n_pm_po : pm ≠ po := z_apart hkm hko (by decide)
    have n_rq_px : rq ≠ px := z_apart hkq hkx (by decide)
    have n_rq_pm : rq ≠ pm := z_apart hkq hkm (by decide)
    have n_rq_co : rq ≠ co := z_apart hkq hkO (by decide)
    have n_rq_sp : rq ≠ sp := z_apart hkq hkS (by decide)
    have n_rq_po : rq ≠ po := z_apart hkq hko (by decide)
    have n_co_px : co ≠ px := z_apart hkO hkx (by decide)
    have n_co_pm : co ≠ pm := z_apart hkO hkm (by decide)
    have n_co_rq : co ≠ rq := z_apart hkO hkq (by decide)
    have n_co_sp : co ≠ sp := z_apart hkO hkS (by decide)
    have n_co_po : co ≠ po := z_apart hkO hko (by decide)
    have n_sp_px : sp ≠ px := z_apart hkS hkx (by decide)
    have n_sp_pm : sp ≠ pm := z_apart hkS hkm (by decide)
    have n_sp_rq : sp ≠ rq := z_apart hkS hkq (by decide)
    have n_sp_co : sp ≠ co := z_apart hkS hkO (by decide)
    have n_sp_po : sp ≠ po := z_apart hkS hko (by decide)
    have n_po_px : po ≠ px := z_apart hko hkx (by decide)
    have n_po_pm : po ≠ pm := z_apart hko hkm (by decide)
    have n_po_rq : po ≠ rq := z_apart hko hkq (by decide)
    have n_po_co : po ≠ co := z_apart hko hkO (by decide)
    have n_po_sp : po ≠ sp := z_apart hko hkS (by decide)
    have hz : zLc κ (zup (zup g sp 0 (.int (xs (nI (4 * k + 1)).toNatClampNeg))) po 0 (.long v9)) z0 px pm rq co sp aC aT t := (hJ.1.up hkS (by decide)).up hko (by decide)
    have hI : zI D tc (zA [] [] s.heap.size) s.heap [] L κ (zup (zup g sp 0 (.int (xs (nI (4 * k + 1)).toNatClampNeg))) po 0 (.long v9)) H locs := hI
    obtain ⟨g1, hg1⟩ : ∃ x, x = (zup (zup g sp 0 (.int (xs (nI (4 * k + 1)).toNatClampNeg))) po 0 (.long v9)) := ⟨_, rfl⟩
    rw [← hg1] at hI hz
    have hgm : ∀ j, g1 pm j = g pm j := fun j => by subst hg1; simp [zup, n_px_pm, n_px_rq, n_px_co, n_px_sp, n_px_po, n_pm_px, n_pm_rq, n_pm_co, n_pm_sp, n_pm_po, n_rq_px, n_rq_pm, n_rq_co, n_rq_sp, n_rq_po, n_co_px, n_co_pm, n_co_rq, n_co_sp, n_co_po, n_sp_px, n_sp_pm, n_sp_rq, n_sp_co, n_sp_po, n_po_px, n_po_pm, n_po_rq, n_po_co, n_po_sp]
    refine lv_istore (lv' := [(6, .int 0), (0, .ref b), (1, .ref px), (2, .ref pm), (3, .ref po), (4, .ref pd), (5, .int (nI (4 * k)))]) hx hb dL_law_1646 hl (by decide) rfl (fun ls hl => ?_)
    refine lv_aload_n hx hb dL_law_1648 rfl (lv_at hl 3 rfl) ?_
    refine lv_aload_n hx hb dL_law_1649 rfl (lv_at hl 1 rfl) ?_
    refine lv_iload hx hb dL_law_1650 (lv_at hl 6 rfl) ?_
    refine lv_iconst (v := 1) hx hb dL_law_1652 (by decide) ?_
    refine lv_iadd hx hb dL_law_1653 ?_
    rw [show nI (4 * k) + 1 = nI (4 * k + 1) from nI_add _ _]
    refine va_sld hx hb hX hbl hbA hI.2.1 (vp_in_nI (show 4 * k + 1 < N from by omega) (by omega)) dL_law_1654 ?_
    obtain ⟨⟨hkx, hkm, hkq, hkO, hkS, hkC, hkT⟩, ⟨hR, hO, hS9, hC, hT⟩, ⟨htM, htb⟩, lc, eC, nC, mC, cf, lt, eT, nT, mT, tf, hMo, hCo, hTh⟩ := id hz
    refine z_ci hI (va_runV (As := [.int (xs (nI (4 * k + 1)).toNatClampNeg)]) (rest := []) ⟨hx, hb, hml, hown, hts⟩ (c_X11_wall l D tc z0 _ κ g1 _ pm hkm (xs (nI (4 * k + 1)).toNatClampNeg)  ) (cwV 1 hts gL_law_X11_wall rfl rfl rfl (by decide +kernel) ⟨Nat.le_of_ble_eq_true rfl, Nat.le_of_ble_eq_true rfl⟩) (z_preV (Xc := []) hK hE hI [] rfl rfl (z_recv hK hI hkm rfl rfl)) rfl rfl hl.1 rfl (lv_room (Nat.le_of_ble_eq_true rfl)) dL_law_1655 ⟨(show 60 + 20 * k + 37 * t + 1 + 0 ≤ 746514 from by omega), (show 400 + 120 * k + 162 * t + 6 + 0 ≤ 6862693 from by omega)⟩) (fun w u H locs hw hI => ?_)
    rcases hw with ⟨w0, w1, hu⟩ | ⟨w1, w2, hu⟩
    · exact absurd q1 w1
    · cases hu
      have hcd : (zup (zup g1 pm 12 (.int 0)) pm 7 (.int (xs (nI (4 * k + 1)).toNatClampNeg))) pm 12 = .int 0 := by simp [zup, n_px_pm, n_px_rq, n_px_co, n_px_sp, n_px_po, n_pm_px, n_pm_rq, n_pm_co, n_pm_sp, n_pm_po, n_rq_px, n_rq_pm, n_rq_co, n_rq_sp, n_rq_po, n_co_px, n_co_pm, n_co_rq, n_co_sp, n_co_po, n_sp_px, n_sp_pm, n_sp_rq, n_sp_co, n_sp_po, n_po_px, n_po_pm, n_po_rq, n_po_co, n_po_sp]
      have hpo : (zup (zup g1 pm 12 (.int 0)) pm 7 (.int (xs (nI (4 * k + 1)).toNatClampNeg))) po 0 = .long v9 := by subst hg1; simp [zup, n_px_pm, n_px_rq, n_px_co, n_px_sp, n_px_po, n_pm_px, n_pm_rq, n_pm_co, n_pm_sp, n_pm_po, n_rq_px, n_rq_pm, n_rq_co, n_rq_sp, n_rq_po, n_co_px, n_co_pm, n_co_rq, n_co_sp, n_co_po, n_sp_px, n_sp_pm, n_sp_rq, n_sp_co, n_sp_po, n_po_px, n_po_pm, n_po_rq, n_po_co, n_po_sp]
      have hJ : zJ κ (zup (zup g1 pm 12 (.int 0)) pm 7 (.int (xs (nI (4 * k + 1)).toNatClampNeg))) z0 px pm rq co sp aC aT t := ⟨(hz.upM (by decide)).upM (by decide), (by unfold zAg; subst hg1; simp [zup, n_px_pm, n_px_rq, n_px_co, n_px_sp, n_px_po, n_pm_px, n_pm_rq, n_pm_co, n_pm_sp, n_pm_po, n_rq_px, n_rq_pm, n_rq_co, n_rq_sp, n_rq_po, n_co_px, n_co_pm, n_co_rq, n_co_sp, n_co_po, n_sp_px, n_sp_pm, n_sp_rq, n_sp_co, n_sp_po, n_po_px, n_po_pm, n_po_rq, n_po_co, n_po_sp, a0, a1, a2, a3, a4, a5, a6, a7])⟩
      have hI : zI D tc (zA [] [] s.heap.size) s.heap [] L κ (zup (zup g1 pm 12 (.int 0)) pm 7 (.int (xs (nI (4 * k + 1)).toNatClampNeg))) H locs := hI
      generalize (zup (zup g1 pm 12 (.int 0)) pm 7 (.int (xs (nI (4 * k + 1)).toNatClampNeg))) = g3 at hI hJ hcd hpo
      have hrw : r1 = w := Value.int.inj (q4.symm.trans (a7.trans ((hgm 7).symm.trans w2)))
      refine lv_istore (lv' := [(7, .int w), (6, .int 0), (0, .ref b), (1, .ref px), (2, .ref pm), (3, .ref po), (4, .ref pd), (5, .int (nI (4 * k)))]) hx hb dL_law_1658 hl (by decide) rfl (fun ls hl => ?_)
      refine lv_aload_n hx hb dL_law_1660 rfl (lv_at hl 4 rfl) ?_
      refine z_ci hI (va_runV (As := []) (rest := []) ⟨hx, hb, hml, hown, hts⟩ (c_X11_thrown l D tc z0 _ κ g3 _ pm hkm) (cwV 0 hts gL_law_X11_thrown rfl rfl rfl (by decide +kernel) ⟨Nat.le_of_ble_eq_true rfl, Nat.le_of_ble_eq_true rfl⟩) (z_preV (Xc := []) hK hE hI [] rfl rfl (z_recv hK hI hkm rfl rfl)) rfl rfl hl.1 rfl (lv_room (Nat.le_of_ble_eq_true rfl)) dL_law_1661 ⟨(show 60 + 20 * k + 37 * t + 1 + 0 + 0 ≤ 746514 from by omega), (show 400 + 120 * k + 162 * t + 6 + 0 + 0 ≤ 6862693 from by omega)⟩) (fun w2 u H locs hw hI => ?_)
      obtain ⟨hw2, rfl⟩ := hw
      have hI : zI D tc (zA [] [] s.heap.size) s.heap [] L κ g3 H locs := hI
      obtain rfl : w2 = 0 := Value.int.inj (hw2.symm.trans hcd)
      refine lv_iload hx hb dL_law_1664 (lv_at hl 1 rfl) ?_
      refine lv_icmp_eq (tgt := 1671) hx hb dL_law_1666 (by decide) (fun _ => ?_) (fun hne => absurd rfl hne)
      refine lv_iload hx hb dL_law_1671 (lv_at hl 1 rfl) ?_
      refine lv_if_ne (tgt := 1688) hx hb dL_law_1673 (by decide) (fun h9 => absurd rfl h9) (fun _ => ?_)
      refine lv_aload_n hx hb dL_law_1676 rfl (lv_at hl 5 rfl) ?_
      refine lv_iconst (v := 0) hx hb dL_law_1677 (by decide) ?_
      have hM : zM p s m c cL_law #[Value.ref b] wsL_law RL D tc := ⟨hx, hb, hts, hown, hK⟩
      refine z_lald hM hI hko rfl rfl (vp_in_c 0 1 (by decide)) dL_law_1678 (fun x9 hx9 => ?_)
      obtain ⟨hx9, -⟩ := hx9
      rw [show x9 = v9 from Value.long.inj (hx9.trans hpo)]
      refine lv_iload hx hb dL_law_1679 (lv_at hl 0 rfl) ?_
      refine lv_i2l hx hb dL_law_1681 rfl ?_
      refine W.lcmp hx hb dL_law_1682 ?_
      rw [show lg_cmp v9 _ = 0 from by rw [hv9, hrw]; simp [lg_cmp]]
      refine lv_if_eq (tgt := 1688) hx hb dL_law_1683 (by decide) (fun _ => ?_) (fun h9 => absurd rfl h9)
      refine lv_goto (tgt := 2252) hx hb dL_law_1688 (by decide) ?_
      have hl := lv_sub hl [2, 3, 4, 5, 6, 7] (l' := [(0, .ref b), (1, .ref px), (2, .ref pm), (3, .ref po), (4, .ref pd), (5, .int (nI (4 * k)))]) rfl
      refine W.widen (k := 60 + 20 * (k + 1) + 37 * t) (n := 400 + 120 * (k + 1) + 162 * t) (by omega) (by omega) ?_
      refine W.base ?_
      exact hN s.drawn L κ g3 _ _ _ _ (Drawn.sameBut.refl _ _) hJ hko hkd hI hl
  · obtain ⟨⟨_, q1⟩, hp⟩ := hp
    cases hp
    have n_px_pm : px ≠ pm := z_apart hkx hkm (by decide)
    have n_px_rq : px ≠ rq := z_apart hkx hkq (by decide)
    have n_px_co : px ≠ co := z_apart hkx hkO (by decide)
    have n_px_sp : px ≠ sp := z_apart hkx hkS (by decide)
    have n_px_po : px ≠ po := z_apart hkx hko (by decide)
    have n_pm_px : pm ≠ px := z_apart hkm hkx (by decide)
    have n_pm_rq : pm ≠ rq := z_apart hkm hkq (by decide)
    have n_pm_co : pm ≠ co := z_apart hkm hkO (by decide)
    have n_pm_sp : pm ≠ sp := z_apart hkm hkS (by decide)
    have n_pm_po : pm ≠ po := z_apart hkm hko (by decide)
    have n_rq_px : rq ≠ px := z_apart hkq hkx (by decide)
    have n_rq_pm : rq ≠ pm := z_apart hkq hkm (by decide)
    have n_rq_co : rq ≠ co := z_apart hkq hkO (by decide)
    have n_rq_sp : rq ≠ sp := z_apart hkq hkS (by decide)
    have n_rq_po : rq ≠ po := z_apart hkq hko (by decide)
    have n_co_px : co ≠ px := z_apart hkO hkx (by decide)
    have n_co_pm : co ≠ pm := z_apart hkO hkm (by decide)
    have n_co_rq : co ≠ rq := z_apart hkO hkq (by decide)
    have n_co_sp : co ≠ sp := z_apart hkO hkS (by decide)
    have n_co_po : co ≠ po := z_apart hkO hko (by decide)
    have n_sp_px : sp ≠ px := z_apart hkS hkx (by decide)
    have n_sp_pm : sp ≠ pm := z_apart hkS hkm (by decide)
    have n_sp_rq : sp ≠ rq := z_apart hkS hkq (by decide)
    have n_sp_co : sp ≠ co := z_apart hkS hkO (by decide)
    have n_sp_po : sp ≠ po := z_apart hkS hko (by decide)
    have n_po_px : po ≠ px := z_apart hko hkx (by decide)
    have n_po_pm : po ≠ pm := z_apart hko hkm (by decide)
    have n_po_rq : po ≠ rq := z_apart hko hkq (by decide)
    have n_po_co : po ≠ co := z_apart hko hkO (by decide)
    have n_po_sp : po ≠ sp := z_apart hko hkS (by decide)
    have hz : zLc κ g z0 px pm rq co sp aC aT t := hJ.1
    have hI : zI D tc (zA [] [] s.heap.size) s.heap [] L κ g H locs := hI
    obtain ⟨g1, hg1⟩ : ∃ x, x = g := ⟨_, rfl⟩
    rw [← hg1] at hI hz
    have hgm : ∀ j, g1 pm j = g pm j := fun j => by subst hg1; simp [zup, n_px_pm, n_px_rq, n_px_co, n_px_sp, n_px_po, n_pm_px, n_pm_rq, n_pm_co, n_pm_sp, n_pm_po, n_rq_px, n_rq_pm, n_rq_co, n_rq_sp, n_rq_po, n_co_px, n_co_pm, n_co_rq, n_co_sp, n_co_po, n_sp_px, n_sp_pm, n_sp_rq, n_sp_co, n_sp_po, n_po_px, n_po_pm, n_po_rq, n_po_co, n_po_sp]
    refine lv_istore (lv' := [(6, .int 1), (0, .ref b), (1, .ref px), (2, .ref pm), (3, .ref po), (4, .ref pd), (5, .int (nI (4 * k)))]) hx hb dL_law_1646 hl (by decide) rfl (fun ls hl => ?_)
    refine lv_aload_n hx hb dL_law_1648 rfl (lv_at hl 3 rfl) ?_
    refine lv_aload_n hx hb dL_law_1649 rfl (lv_at hl 1 rfl) ?_
    refine lv_iload hx hb dL_law_1650 (lv_at hl 6 rfl) ?_
    refine lv_iconst (v := 1) hx hb dL_law_1652 (by decide) ?_
    refine lv_iadd hx hb dL_law_1653 ?_
    rw [show nI (4 * k) + 1 = nI (4 * k + 1) from nI_add _ _]
    refine va_sld hx hb hX hbl hbA hI.2.1 (vp_in_nI (show 4 * k + 1 < N from by omega) (by omega)) dL_law_1654 ?_
    obtain ⟨⟨hkx, hkm, hkq, hkO, hkS, hkC, hkT⟩, ⟨hR, hO, hS9, hC, hT⟩, ⟨htM, htb⟩, lc, eC, nC, mC, cf, lt, eT, nT, mT, tf, hMo, hCo, hTh⟩ := id hz
    refine z_ci hI (va_runV (As := [.int (xs (nI (4 * k + 1)).toNatClampNeg)]) (rest := []) ⟨hx, hb, hml, hown, hts⟩ (c_X11_wall l D tc z0 _ κ g1 _ pm hkm (xs (nI (4 * k + 1)).toNatClampNeg)  ) (cwV 1 hts gL_law_X11_wall rfl rfl rfl (by decide +kernel) ⟨Nat.le_of_ble_eq_true rfl, Nat.le_of_ble_eq_true rfl⟩) (z_preV (Xc := []) hK hE hI [] rfl rfl (z_recv hK hI hkm rfl rfl)) rfl rfl hl.1 rfl (lv_room (Nat.le_of_ble_eq_true rfl)) dL_law_1655 ⟨(show 60 + 20 * k + 37 * t + 1 + 0 ≤ 746514 from by omega), (show 400 + 120 * k + 162 * t + 6 + 0 ≤ 6862693 from by omega)⟩) (fun w u H locs hw hI => ?_)
    rcases hw with ⟨w0, w1, hu⟩ | ⟨w1, w2, hu⟩
    · cases hu
      have hcd : (zup g1 pm 12 (.int 1)) pm 12 = .int 1 := by simp [zup, n_px_pm, n_px_rq, n_px_co, n_px_sp, n_px_po, n_pm_px, n_pm_rq, n_pm_co, n_pm_sp, n_pm_po, n_rq_px, n_rq_pm, n_rq_co, n_rq_sp, n_rq_po, n_co_px, n_co_pm, n_co_rq, n_co_sp, n_co_po, n_sp_px, n_sp_pm, n_sp_rq, n_sp_co, n_sp_po, n_po_px, n_po_pm, n_po_rq, n_po_co, n_po_sp]
      have hJ : zJ κ (zup g1 pm 12 (.int 1)) z0 px pm rq co sp aC aT t := ⟨hz.upM (by decide), (by unfold zAg; subst hg1; simp [zup, n_px_pm, n_px_rq, n_px_co, n_px_sp, n_px_po, n_pm_px, n_pm_rq, n_pm_co, n_pm_sp, n_pm_po, n_rq_px, n_rq_pm, n_rq_co, n_rq_sp, n_rq_po, n_co_px, n_co_pm, n_co_rq, n_co_sp, n_co_po, n_sp_px, n_sp_pm, n_sp_rq, n_sp_co, n_sp_po, n_po_px, n_po_pm, n_po_rq, n_po_co, n_po_sp, a0, a1, a2, a3, a4, a5, a6, a7])⟩
      have hI : zI D tc (zA [] [] s.heap.size) s.heap [] L κ (zup g1 pm 12 (.int 1)) H locs := hI
      generalize (zup g1 pm 12 (.int 1)) = g3 at hI hJ hcd
      refine lv_istore (lv' := [(7, .int w), (6, .int 1), (0, .ref b), (1, .ref px), (2, .ref pm), (3, .ref po), (4, .ref pd), (5, .int (nI (4 * k)))]) hx hb dL_law_1658 hl (by decide) rfl (fun ls hl => ?_)
      refine lv_aload_n hx hb dL_law_1660 rfl (lv_at hl 4 rfl) ?_
      refine z_ci hI (va_runV (As := []) (rest := []) ⟨hx, hb, hml, hown, hts⟩ (c_X11_thrown l D tc z0 _ κ g3 _ pm hkm) (cwV 0 hts gL_law_X11_thrown rfl rfl rfl (by decide +kernel) ⟨Nat.le_of_ble_eq_true rfl, Nat.le_of_ble_eq_true rfl⟩) (z_preV (Xc := []) hK hE hI [] rfl rfl (z_recv hK hI hkm rfl rfl)) rfl rfl hl.1 rfl (lv_room (Nat.le_of_ble_eq_true rfl)) dL_law_1661 ⟨(show 60 + 20 * k + 37 * t + 1 + 0 + 0 ≤ 746514 from by omega), (show 400 + 120 * k + 162 * t + 6 + 0 + 0 ≤ 6862693 from by omega)⟩) (fun w2 u H locs hw hI => ?_)
      obtain ⟨hw2, rfl⟩ := hw
      have hI : zI D tc (zA [] [] s.heap.size) s.heap [] L κ g3 H locs := hI
      obtain rfl : w2 = 1 := Value.int.inj (hw2.symm.trans hcd)
      refine lv_iload hx hb dL_law_1664 (lv_at hl 1 rfl) ?_
      refine lv_icmp_eq (tgt := 1671) hx hb dL_law_1666 (by decide) (fun _ => ?_) (fun hne => absurd rfl hne)
      refine lv_iload hx hb dL_law_1671 (lv_at hl 1 rfl) ?_
      refine lv_if_ne (tgt := 1688) hx hb dL_law_1673 (by decide) (fun _ => ?_) (fun h9 => absurd h9 (by decide))
      refine lv_goto (tgt := 2252) hx hb dL_law_1688 (by decide) ?_
      have hl := lv_sub hl [2, 3, 4, 5, 6, 7] (l' := [(0, .ref b), (1, .ref px), (2, .ref pm), (3, .ref po), (4, .ref pd), (5, .int (nI (4 * k)))]) rfl
      refine W.widen (k := 60 + 20 * (k + 1) + 37 * t) (n := 400 + 120 * (k + 1) + 162 * t) (by omega) (by omega) ?_
      refine W.base ?_
      exact hN s.drawn L κ g3 _ _ _ _ (Drawn.sameBut.refl _ _) hJ hko hkd hI hl
    · exact absurd w1 q1

set_option maxHeartbeats 4000000 in
set_option maxRecDepth 100000 in
theorem k_request (l : Launch) (hnt : l.stackTraces = false) {p : Program} {e : Env} {s : State} {m : MethodId} {below : List Frame} {meth : Method} {c : Code} {H : Heap} {locs : List Loc} {Q : State → Prop} {D : va_G} {tc : Nat → ClassId} {z0 b N : Nat} {xs : Nat → Int32} {px pm po pd rq co sp aC aT t k : Nat} {L : List Nat} {κ : Nat → Nat} {g : Nat → Nat → Value} {ls : Array Slot} (C : lwC p s m meth c b N xs D tc z0) (hk : 4 * k + 4 ≤ N) (hN8 : N ≤ 2048) (hJ : zJ κ g z0 px pm rq co sp aC aT t) (h0 : (∀ j, g aC j = .null) ∧ ∀ j, g aT j = .null) (hko : κ po = 29) (hkd : κ pd = 30) (hI : zI D tc (zA [] [] s.heap.size) s.heap [] L κ g H locs) (hl : lv_has ls 9 [(0, .ref b), (1, .ref px), (2, .ref pm), (3, .ref po), (4, .ref pd), (5, .int (nI (4 * k)))]) (hN : lwN p l e s m below meth c b D tc z0 px pm po pd rq co sp aC aT k Q) : W p l e room_1 s m #[Value.ref b] below meth c H locs (60 + 20 * k + 37 * t) (400 + 120 * k + 162 * t) Q (F0 m 1743 ls []) := by
  obtain ⟨hx, hb, hml, hown, hts, hK, hE, hX, hbl⟩ := C
  have hbA : ¬ zA [] [] s.heap.size b := fun q => by rcases q with q | q | q; exact absurd q List.not_mem_nil; exact absurd q List.not_mem_nil; exact absurd hbl (Nat.not_lt.mpr q)
  have htb9 : t ≤ 9999 := hJ.1.2.2.1.2
  refine lv_aload_n hx hb dL_law_1743 rfl (lv_at hl 1 rfl) ?_
  refine lv_aload_n hx hb dL_law_1744 rfl (lv_at hl 0 rfl) ?_
  refine lv_iload hx hb dL_law_1745 (lv_at hl 5 rfl) ?_
  refine lv_iconst (v := 1) hx hb dL_law_1747 (by decide) ?_
  refine lv_iadd hx hb dL_law_1748 ?_
  rw [show nI (4 * k) + 1 = nI (4 * k + 1) from nI_add _ _]
  refine va_sld hx hb hX hbl hbA hI.2.1 (vp_in_nI (show 4 * k + 1 < N from by omega) (by omega)) dL_law_1749 ?_
  refine lv_aload_n hx hb dL_law_1750 rfl (lv_at hl 0 rfl) ?_
  refine lv_iload hx hb dL_law_1751 (lv_at hl 5 rfl) ?_
  refine lv_iconst (v := 2) hx hb dL_law_1753 (by decide) ?_
  refine lv_iadd hx hb dL_law_1754 ?_
  rw [show nI (4 * k) + 2 = nI (4 * k + 2) from nI_add _ _]
  refine va_sld hx hb hX hbl hbA hI.2.1 (vp_in_nI (show 4 * k + 2 < N from by omega) (by omega)) dL_law_1755 ?_
  refine lv_aload_n hx hb dL_law_1756 rfl (lv_at hl 3 rfl) ?_
  obtain ⟨⟨⟨hkx, hkm, hkq, hkO, hkS, hkC, hkT⟩, ⟨hR, hO, hS9, hC, hT⟩, ⟨htM, htb⟩, lc, eC, nC, mC, cf, lt, eT, nT, mT, tf, hMo, hCo, hTh⟩, a0, a1, a2, a3, a4, a5, a6, a7⟩ := id hJ
  obtain ⟨n9, hn9⟩ := z_gi (j := 0) hI hkq rfl rfl
  obtain ⟨k9, hk9⟩ := z_gi (j := 1) hI hkq rfl rfl
  refine z_xi hI (vx_runSX (As := [.ref px, .int (xs (nI (4 * k + 1)).toNatClampNeg), .int (xs (nI (4 * k + 2)).toNatClampNeg), .ref po]) (rest := []) ⟨hx, hb, hml, hown, hts⟩ (c_L_request l hnt D tc z0 _ κ g _ px hkx (xs (nI (4 * k + 1)).toNatClampNeg) (xs (nI (4 * k + 2)).toNatClampNeg) po hko rq hR n9 k9 hn9 hk9) (vx_cwSW 4 hts gL_law_L_request rfl rfl rfl (by decide +kernel) ⟨Nat.le_of_ble_eq_true rfl, Nat.le_of_ble_eq_true rfl⟩) (z_pre (Xc := []) hK hE hI [] rfl rfl) rfl rfl hl.1 rfl (lv_room (Nat.le_of_ble_eq_true rfl)) dL_law_1757 ⟨(show 60 + 20 * k + 37 * t + 1 ≤ 746514 from by omega), (show 400 + 120 * k + 162 * t + 6 ≤ 6862693 from by omega)⟩) (fun E ce q9 u H locs hw hI he1 he2 he3 => hw.elim) (fun v u H locs hw hI => ?_)
  rcases hw with ⟨rfl, r1, u1, v9, hp, hv9, hu⟩ | ⟨rfl, hp⟩ | ⟨rfl, hp⟩
  · obtain ⟨q1, q2, q3, q4, hp⟩ := hp
    cases hp
    cases hu
    have n_px_pm : px ≠ pm := z_apart hkx hkm (by decide)
    have n_px_rq : px ≠ rq := z_apart hkx hkq (by decide)
    have n_px_co : px ≠ co := z_apart hkx hkO (by decide)
    have n_px_sp : px ≠ sp := z_apart hkx hkS (by decide)
    have n_px_po : px ≠ po := z_apart hkx hko (by decide)
    have n_pm_px : pm ≠ px := z_apart hkm hkx (by decide)
    have n_pm_rq : pm ≠ rq := z_apart hkm hkq (by decide)
    have n_pm_co : pm ≠ co := z_apart hkm hkO (by decide)
    have n_pm_sp : pm ≠ sp := z_apart hkm hkS (by decide)
    have n_pm_po : pm ≠ po := z_apart hkm hko (by decide)
    have n_rq_px : rq ≠ px := z_apart hkq hkx (by decide)
    have n_rq_pm : rq ≠ pm := z_apart hkq hkm (by decide)
    have n_rq_co : rq ≠ co := z_apart hkq hkO (by decide)
    have n_rq_sp : rq ≠ sp := z_apart hkq hkS (by decide)
    have n_rq_po : rq ≠ po := z_apart hkq hko (by decide)
    have n_co_px : co ≠ px := z_apart hkO hkx (by decide)
    have n_co_pm : co ≠ pm := z_apart hkO hkm (by decide)
    have n_co_rq : co ≠ rq := z_apart hkO hkq (by decide)
    have n_co_sp : co ≠ sp := z_apart hkO hkS (by decide)
    have n_co_po : co ≠ po := z_apart hkO hko (by decide)
    have n_sp_px : sp ≠ px := z_apart hkS hkx (by decide)
    have n_sp_pm : sp ≠ pm := z_apart hkS hkm (by decide)
    have n_sp_rq : sp ≠ rq := z_apart hkS hkq (by decide)
    have n_sp_co : sp ≠ co := z_apart hkS hkO (by decide)
    have n_sp_po : sp ≠ po := z_apart hkS hko (by decide)
    have n_po_px : po ≠ px := z_apart hko hkx (by decide)
    have n_po_pm : po ≠ pm := z_apart hko hkm (by decide)
    have n_po_rq : po ≠ rq := z_apart hko hkq (by decide)
    have n_po_co : po ≠ co := z_apart hko hkO (by decide)
    have n_po_sp : po ≠ sp := z_apart hko hkS (by decide)
    have hz : zLc κ (zup (zup (zup (zup g rq 0 (.int (n9 + 1))) rq 1 (.int (xs (nI (4 * k + 1)).toNatClampNeg))) rq 4 (.int (xs (nI (4 * k + 1)).toNatClampNeg))) po 0 (.long v9)) z0 px pm rq co sp aC aT t := (((hJ.1.up hkq (by decide)).up hkq (by decide)).up hkq (by decide)).up hko (by decide)
    have hI : zI D tc (zA [] [] s.heap.size) s.heap [] L κ (zup (zup (zup (zup g rq 0 (.int (n9 + 1))) rq 1 (.int (xs (nI (4 * k + 1)).toNatClampNeg))) rq 4 (.int (xs (nI (4 * k + 1)).toNatClampNeg))) po 0 (.long v9)) H locs := hI
    obtain ⟨g1, hg1⟩ : ∃ x, x = (zup (zup (zup (zup g rq 0 (.int (n9 + 1))) rq 1 (.int (xs (nI (4 * k + 1)).toNatClampNeg))) rq 4 (.int (xs (nI (4 * k + 1)).toNatClampNeg))) po 0 (.long v9)) := ⟨_, rfl⟩
    rw [← hg1] at hI hz
    have hgm : ∀ j, g1 pm j = g pm j := fun j => by subst hg1; simp [zup, n_px_pm, n_px_rq, n_px_co, n_px_sp, n_px_po, n_pm_px, n_pm_rq, n_pm_co, n_pm_sp, n_pm_po, n_rq_px, n_rq_pm, n_rq_co, n_rq_sp, n_rq_po, n_co_px, n_co_pm, n_co_rq, n_co_sp, n_co_po, n_sp_px, n_sp_pm, n_sp_rq, n_sp_co, n_sp_po, n_po_px, n_po_pm, n_po_rq, n_po_co, n_po_sp]
    refine lv_istore (lv' := [(6, .int 0), (0, .ref b), (1, .ref px), (2, .ref pm), (3, .ref po), (4, .ref pd), (5, .int (nI (4 * k)))]) hx hb dL_law_1760 hl (by decide) rfl (fun ls hl => ?_)
    refine lv_aload_n hx hb dL_law_1762 rfl (lv_at hl 3 rfl) ?_
    refine lv_aload_n hx hb dL_law_1763 rfl (lv_at hl 1 rfl) ?_
    refine lv_iload hx hb dL_law_1764 (lv_at hl 6 rfl) ?_
    refine lv_iconst (v := 1) hx hb dL_law_1766 (by decide) ?_
    refine lv_iadd hx hb dL_law_1767 ?_
    rw [show nI (4 * k) + 1 = nI (4 * k + 1) from nI_add _ _]
    refine va_sld hx hb hX hbl hbA hI.2.1 (vp_in_nI (show 4 * k + 1 < N from by omega) (by omega)) dL_law_1768 ?_
    refine lv_aload_n hx hb dL_law_1769 rfl (lv_at hl 1 rfl) ?_
    refine lv_iload hx hb dL_law_1770 (lv_at hl 6 rfl) ?_
    refine lv_iconst (v := 2) hx hb dL_law_1772 (by decide) ?_
    refine lv_iadd hx hb dL_law_1773 ?_
    rw [show nI (4 * k) + 2 = nI (4 * k + 2) from nI_add _ _]
    refine va_sld hx hb hX hbl hbA hI.2.1 (vp_in_nI (show 4 * k + 2 < N from by omega) (by omega)) dL_law_1774 ?_
    obtain ⟨⟨hkx, hkm, hkq, hkO, hkS, hkC, hkT⟩, ⟨hR, hO, hS9, hC, hT⟩, ⟨htM, htb⟩, lc, eC, nC, mC, cf, lt, eT, nT, mT, tf, hMo, hCo, hTh⟩ := id hz
    refine z_ci hI (va_runV (As := [.int (xs (nI (4 * k + 1)).toNatClampNeg), .int (xs (nI (4 * k + 2)).toNatClampNeg)]) (rest := []) ⟨hx, hb, hml, hown, hts⟩ (c_X11_request l D tc z0 _ κ g1 _ pm hkm (xs (nI (4 * k + 1)).toNatClampNeg) (xs (nI (4 * k + 2)).toNatClampNeg)  n9 k9 ((hgm 18).trans (a0.symm.trans hn9)) ((hgm 13).trans (a1.symm.trans hk9))) (cwV 2 hts gL_law_X11_request rfl rfl rfl (by decide +kernel) ⟨Nat.le_of_ble_eq_true rfl, Nat.le_of_ble_eq_true rfl⟩) (z_preV (Xc := []) hK hE hI [] rfl rfl (z_recv hK hI hkm rfl rfl)) rfl rfl hl.1 rfl (lv_room (Nat.le_of_ble_eq_true rfl)) dL_law_1775 ⟨(show 60 + 20 * k + 37 * t + 1 + 0 ≤ 746514 from by omega), (show 400 + 120 * k + 162 * t + 6 + 0 ≤ 6862693 from by omega)⟩) (fun w u H locs hw hI => ?_)
    rcases hw with ⟨w0, w1, hu⟩ | ⟨w0, w1, w2, hu⟩ | ⟨w0, w1, w2, w3, hu⟩ | ⟨w1, w2, w3, w0, hu⟩
    · exact absurd q1 w1
    · exact absurd q2 w2
    · exact absurd (Int32.lt_of_lt_of_le q3 w3) Int32.lt_irrefl
    · cases hu
      have hcd : (zup (zup (zup (zup g1 pm 12 (.int 0)) pm 13 (.int (xs (nI (4 * k + 1)).toNatClampNeg))) pm 16 (.int (xs (nI (4 * k + 1)).toNatClampNeg))) pm 18 (.int (n9 + 1))) pm 12 = .int 0 := by simp [zup, n_px_pm, n_px_rq, n_px_co, n_px_sp, n_px_po, n_pm_px, n_pm_rq, n_pm_co, n_pm_sp, n_pm_po, n_rq_px, n_rq_pm, n_rq_co, n_rq_sp, n_rq_po, n_co_px, n_co_pm, n_co_rq, n_co_sp, n_co_po, n_sp_px, n_sp_pm, n_sp_rq, n_sp_co, n_sp_po, n_po_px, n_po_pm, n_po_rq, n_po_co, n_po_sp]
      have hpo : (zup (zup (zup (zup g1 pm 12 (.int 0)) pm 13 (.int (xs (nI (4 * k + 1)).toNatClampNeg))) pm 16 (.int (xs (nI (4 * k + 1)).toNatClampNeg))) pm 18 (.int (n9 + 1))) po 0 = .long v9 := by subst hg1; simp [zup, n_px_pm, n_px_rq, n_px_co, n_px_sp, n_px_po, n_pm_px, n_pm_rq, n_pm_co, n_pm_sp, n_pm_po, n_rq_px, n_rq_pm, n_rq_co, n_rq_sp, n_rq_po, n_co_px, n_co_pm, n_co_rq, n_co_sp, n_co_po, n_sp_px, n_sp_pm, n_sp_rq, n_sp_co, n_sp_po, n_po_px, n_po_pm, n_po_rq, n_po_co, n_po_sp]
      have hJ : zJ κ (zup (zup (zup (zup g1 pm 12 (.int 0)) pm 13 (.int (xs (nI (4 * k + 1)).toNatClampNeg))) pm 16 (.int (xs (nI (4 * k + 1)).toNatClampNeg))) pm 18 (.int (n9 + 1))) z0 px pm rq co sp aC aT t := ⟨(((hz.upM (by decide)).upM (by decide)).upM (by decide)).upM (by decide), (by unfold zAg; subst hg1; simp [zup, n_px_pm, n_px_rq, n_px_co, n_px_sp, n_px_po, n_pm_px, n_pm_rq, n_pm_co, n_pm_sp, n_pm_po, n_rq_px, n_rq_pm, n_rq_co, n_rq_sp, n_rq_po, n_co_px, n_co_pm, n_co_rq, n_co_sp, n_co_po, n_sp_px, n_sp_pm, n_sp_rq, n_sp_co, n_sp_po, n_po_px, n_po_pm, n_po_rq, n_po_co, n_po_sp, a0, a1, a2, a3, a4, a5, a6, a7])⟩
      have hI : zI D tc (zA [] [] s.heap.size) s.heap [] L κ (zup (zup (zup (zup g1 pm 12 (.int 0)) pm 13 (.int (xs (nI (4 * k + 1)).toNatClampNeg))) pm 16 (.int (xs (nI (4 * k + 1)).toNatClampNeg))) pm 18 (.int (n9 + 1))) H locs := hI
      generalize (zup (zup (zup (zup g1 pm 12 (.int 0)) pm 13 (.int (xs (nI (4 * k + 1)).toNatClampNeg))) pm 16 (.int (xs (nI (4 * k + 1)).toNatClampNeg))) pm 18 (.int (n9 + 1))) = g3 at hI hJ hcd hpo
      have hrw : r1 = w := q4.trans w0.symm
      refine lv_istore (lv' := [(7, .int w), (6, .int 0), (0, .ref b), (1, .ref px), (2, .ref pm), (3, .ref po), (4, .ref pd), (5, .int (nI (4 * k)))]) hx hb dL_law_1778 hl (by decide) rfl (fun ls hl => ?_)
      refine lv_aload_n hx hb dL_law_1780 rfl (lv_at hl 4 rfl) ?_
      refine z_ci hI (va_runV (As := []) (rest := []) ⟨hx, hb, hml, hown, hts⟩ (c_X11_thrown l D tc z0 _ κ g3 _ pm hkm) (cwV 0 hts gL_law_X11_thrown rfl rfl rfl (by decide +kernel) ⟨Nat.le_of_ble_eq_true rfl, Nat.le_of_ble_eq_true rfl⟩) (z_preV (Xc := []) hK hE hI [] rfl rfl (z_recv hK hI hkm rfl rfl)) rfl rfl hl.1 rfl (lv_room (Nat.le_of_ble_eq_true rfl)) dL_law_1781 ⟨(show 60 + 20 * k + 37 * t + 1 + 0 + 0 ≤ 746514 from by omega), (show 400 + 120 * k + 162 * t + 6 + 0 + 0 ≤ 6862693 from by omega)⟩) (fun w2 u H locs hw hI => ?_)
      obtain ⟨hw2, rfl⟩ := hw
      have hI : zI D tc (zA [] [] s.heap.size) s.heap [] L κ g3 H locs := hI
      obtain rfl : w2 = 0 := Value.int.inj (hw2.symm.trans hcd)
      refine lv_iload hx hb dL_law_1784 (lv_at hl 1 rfl) ?_
      refine lv_icmp_eq (tgt := 1791) hx hb dL_law_1786 (by decide) (fun _ => ?_) (fun hne => absurd rfl hne)
      refine lv_iload hx hb dL_law_1791 (lv_at hl 1 rfl) ?_
      refine lv_if_ne (tgt := 1808) hx hb dL_law_1793 (by decide) (fun h9 => absurd rfl h9) (fun _ => ?_)
      refine lv_aload_n hx hb dL_law_1796 rfl (lv_at hl 5 rfl) ?_
      refine lv_iconst (v := 0) hx hb dL_law_1797 (by decide) ?_
      have hM : zM p s m c cL_law #[Value.ref b] wsL_law RL D tc := ⟨hx, hb, hts, hown, hK⟩
      refine z_lald hM hI hko rfl rfl (vp_in_c 0 1 (by decide)) dL_law_1798 (fun x9 hx9 => ?_)
      obtain ⟨hx9, -⟩ := hx9
      rw [show x9 = v9 from Value.long.inj (hx9.trans hpo)]
      refine lv_iload hx hb dL_law_1799 (lv_at hl 0 rfl) ?_
      refine lv_i2l hx hb dL_law_1801 rfl ?_
      refine W.lcmp hx hb dL_law_1802 ?_
      rw [show lg_cmp v9 _ = 0 from by rw [hv9, hrw]; simp [lg_cmp]]
      refine lv_if_eq (tgt := 1808) hx hb dL_law_1803 (by decide) (fun _ => ?_) (fun h9 => absurd rfl h9)
      refine lv_goto (tgt := 2252) hx hb dL_law_1808 (by decide) ?_
      have hl := lv_sub hl [2, 3, 4, 5, 6, 7] (l' := [(0, .ref b), (1, .ref px), (2, .ref pm), (3, .ref po), (4, .ref pd), (5, .int (nI (4 * k)))]) rfl
      refine W.widen (k := 60 + 20 * (k + 1) + 37 * t) (n := 400 + 120 * (k + 1) + 162 * t) (by omega) (by omega) ?_
      refine W.base ?_
      exact hN s.drawn L κ g3 _ _ _ _ (Drawn.sameBut.refl _ _) hJ hko hkd hI hl
  · rcases hp with ⟨_, q1, hp⟩ | ⟨_, q1, q2, hp⟩ | ⟨q0, _⟩
    · cases hp
      have n_px_pm : px ≠ pm := z_apart hkx hkm (by decide)
      have n_px_rq : px ≠ rq := z_apart hkx hkq (by decide)
      have n_px_co : px ≠ co := z_apart hkx hkO (by decide)
      have n_px_sp : px ≠ sp := z_apart hkx hkS (by decide)
      have n_px_po : px ≠ po := z_apart hkx hko (by decide)
      have n_pm_px : pm ≠ px := z_apart hkm hkx (by decide)
      have n_pm_rq : pm ≠ rq := z_apart hkm hkq (by decide)
      have n_pm_co : pm ≠ co := z_apart hkm hkO (by decide)
      have n_pm_sp : pm ≠ sp := z_apart hkm hkS (by decide)
      have n_pm_po : pm ≠ po := z_apart hkm hko (by decide)
      have n_rq_px : rq ≠ px := z_apart hkq hkx (by decide)
      have n_rq_pm : rq ≠ pm := z_apart hkq hkm (by decide)
      have n_rq_co : rq ≠ co := z_apart hkq hkO (by decide)
      have n_rq_sp : rq ≠ sp := z_apart hkq hkS (by decide)
      have n_rq_po : rq ≠ po := z_apart hkq hko (by decide)
      have n_co_px : co ≠ px := z_apart hkO hkx (by decide)
      have n_co_pm : co ≠ pm := z_apart hkO hkm (by decide)
      have n_co_rq : co ≠ rq := z_apart hkO hkq (by decide)
      have n_co_sp : co ≠ sp := z_apart hkO hkS (by decide)
      have n_co_po : co ≠ po := z_apart hkO hko (by decide)
      have n_sp_px : sp ≠ px := z_apart hkS hkx (by decide)
      have n_sp_pm : sp ≠ pm := z_apart hkS hkm (by decide)
      have n_sp_rq : sp ≠ rq := z_apart hkS hkq (by decide)
      have n_sp_co : sp ≠ co := z_apart hkS hkO (by decide)
      have n_sp_po : sp ≠ po := z_apart hkS hko (by decide)
      have n_po_px : po ≠ px := z_apart hko hkx (by decide)
      have n_po_pm : po ≠ pm := z_apart hko hkm (by decide)
      have n_po_rq : po ≠ rq := z_apart hko hkq (by decide)
      have n_po_co : po ≠ co := z_apart hko hkO (by decide)
      have n_po_sp : po ≠ sp := z_apart hko hkS (by decide)
      have hz : zLc κ (zup g rq 6 (.int 110)) z0 px pm rq co sp aC aT t := hJ.1.up hkq (by decide)
      have hI : zI D tc (zA [] [] s.heap.size) s.heap [] L κ (zup g rq 6 (.int 110)) H locs := hI
      obtain ⟨g1, hg1⟩ : ∃ x, x = (zup g rq 6 (.int 110)) := ⟨_, rfl⟩
      rw [← hg1] at hI hz
      have hgm : ∀ j, g1 pm j = g pm j := fun j => by subst hg1; simp [zup, n_px_pm, n_px_rq, n_px_co, n_px_sp, n_px_po, n_pm_px, n_pm_rq, n_pm_co, n_pm_sp, n_pm_po, n_rq_px, n_rq_pm, n_rq_co, n_rq_sp, n_rq_po, n_co_px, n_co_pm, n_co_rq, n_co_sp, n_co_po, n_sp_px, n_sp_pm, n_sp_rq, n_sp_co, n_sp_po, n_po_px, n_po_pm, n_po_rq, n_po_co, n_po_sp]
      refine lv_istore (lv' := [(6, .int 1), (0, .ref b), (1, .ref px), (2, .ref pm), (3, .ref po), (4, .ref pd), (5, .int (nI (4 * k)))]) hx hb dL_law_1760 hl (by decide) rfl (fun ls hl => ?_)
      refine lv_aload_n hx hb dL_law_1762 rfl (lv_at hl 3 rfl) ?_
      refine lv_aload_n hx hb dL_law_1763 rfl (lv_at hl 1 rfl) ?_
      refine lv_iload hx hb dL_law_1764 (lv_at hl 6 rfl) ?_
      refine lv_iconst (v := 1) hx hb dL_law_1766 (by decide) ?_
      refine lv_iadd hx hb dL_law_1767 ?_
      rw [show nI (4 * k) + 1 = nI (4 * k + 1) from nI_add _ _]
      refine va_sld hx hb hX hbl hbA hI.2.1 (vp_in_nI (show 4 * k + 1 < N from by omega) (by omega)) dL_law_1768 ?_
      refine lv_aload_n hx hb dL_law_1769 rfl (lv_at hl 1 rfl) ?_
      refine lv_iload hx hb dL_law_1770 (lv_at hl 6 rfl) ?_
      refine lv_iconst (v := 2) hx hb dL_law_1772 (by decide) ?_
      refine lv_iadd hx hb dL_law_1773 ?_
      rw [show nI (4 * k) + 2 = nI (4 * k + 2) from nI_add _ _]
      refine va_sld hx hb hX hbl hbA hI.2.1 (vp_in_nI (show 4 * k + 2 < N from by omega) (by omega)) dL_law_1774 ?_
      obtain ⟨⟨hkx, hkm, hkq, hkO, hkS, hkC, hkT⟩, ⟨hR, hO, hS9, hC, hT⟩, ⟨htM, htb⟩, lc, eC, nC, mC, cf, lt, eT, nT, mT, tf, hMo, hCo, hTh⟩ := id hz
      refine z_ci hI (va_runV (As := [.int (xs (nI (4 * k + 1)).toNatClampNeg), .int (xs (nI (4 * k + 2)).toNatClampNeg)]) (rest := []) ⟨hx, hb, hml, hown, hts⟩ (c_X11_request l D tc z0 _ κ g1 _ pm hkm (xs (nI (4 * k + 1)).toNatClampNeg) (xs (nI (4 * k + 2)).toNatClampNeg)  n9 k9 ((hgm 18).trans (a0.symm.trans hn9)) ((hgm 13).trans (a1.symm.trans hk9))) (cwV 2 hts gL_law_X11_request rfl rfl rfl (by decide +kernel) ⟨Nat.le_of_ble_eq_true rfl, Nat.le_of_ble_eq_true rfl⟩) (z_preV (Xc := []) hK hE hI [] rfl rfl (z_recv hK hI hkm rfl rfl)) rfl rfl hl.1 rfl (lv_room (Nat.le_of_ble_eq_true rfl)) dL_law_1775 ⟨(show 60 + 20 * k + 37 * t + 1 + 0 ≤ 746514 from by omega), (show 400 + 120 * k + 162 * t + 6 + 0 ≤ 6862693 from by omega)⟩) (fun w u H locs hw hI => ?_)
      rcases hw with ⟨w0, w1, hu⟩ | ⟨w0, w1, w2, hu⟩ | ⟨w0, w1, w2, w3, hu⟩ | ⟨w1, w2, w3, w0, hu⟩
      · cases hu
        have hcd : (zup (zup g1 pm 12 (.int 1)) pm 26 (.int 110)) pm 12 = .int 1 := by simp [zup, n_px_pm, n_px_rq, n_px_co, n_px_sp, n_px_po, n_pm_px, n_pm_rq, n_pm_co, n_pm_sp, n_pm_po, n_rq_px, n_rq_pm, n_rq_co, n_rq_sp, n_rq_po, n_co_px, n_co_pm, n_co_rq, n_co_sp, n_co_po, n_sp_px, n_sp_pm, n_sp_rq, n_sp_co, n_sp_po, n_po_px, n_po_pm, n_po_rq, n_po_co, n_po_sp]
        have hJ : zJ κ (zup (zup g1 pm 12 (.int 1)) pm 26 (.int 110)) z0 px pm rq co sp aC aT t := ⟨(hz.upM (by decide)).upM (by decide), (by unfold zAg; subst hg1; simp [zup, n_px_pm, n_px_rq, n_px_co, n_px_sp, n_px_po, n_pm_px, n_pm_rq, n_pm_co, n_pm_sp, n_pm_po, n_rq_px, n_rq_pm, n_rq_co, n_rq_sp, n_rq_po, n_co_px, n_co_pm, n_co_rq, n_co_sp, n_co_po, n_sp_px, n_sp_pm, n_sp_rq, n_sp_co, n_sp_po, n_po_px, n_po_pm, n_po_rq, n_po_co, n_po_sp, a0, a1, a2, a3, a4, a5, a6, a7])⟩
        have hI : zI D tc (zA [] [] s.heap.size) s.heap [] L κ (zup (zup g1 pm 12 (.int 1)) pm 26 (.int 110)) H locs := hI
        generalize (zup (zup g1 pm 12 (.int 1)) pm 26 (.int 110)) = g3 at hI hJ hcd
        refine lv_istore (lv' := [(7, .int w), (6, .int 1), (0, .ref b), (1, .ref px), (2, .ref pm), (3, .ref po), (4, .ref pd), (5, .int (nI (4 * k)))]) hx hb dL_law_1778 hl (by decide) rfl (fun ls hl => ?_)
        refine lv_aload_n hx hb dL_law_1780 rfl (lv_at hl 4 rfl) ?_
        refine z_ci hI (va_runV (As := []) (rest := []) ⟨hx, hb, hml, hown, hts⟩ (c_X11_thrown l D tc z0 _ κ g3 _ pm hkm) (cwV 0 hts gL_law_X11_thrown rfl rfl rfl (by decide +kernel) ⟨Nat.le_of_ble_eq_true rfl, Nat.le_of_ble_eq_true rfl⟩) (z_preV (Xc := []) hK hE hI [] rfl rfl (z_recv hK hI hkm rfl rfl)) rfl rfl hl.1 rfl (lv_room (Nat.le_of_ble_eq_true rfl)) dL_law_1781 ⟨(show 60 + 20 * k + 37 * t + 1 + 0 + 0 ≤ 746514 from by omega), (show 400 + 120 * k + 162 * t + 6 + 0 + 0 ≤ 6862693 from by omega)⟩) (fun w2 u H locs hw hI => ?_)
        obtain ⟨hw2, rfl⟩ := hw
        have hI : zI D tc (zA [] [] s.heap.size) s.heap [] L κ g3 H locs := hI
        obtain rfl : w2 = 1 := Value.int.inj (hw2.symm.trans hcd)
        refine lv_iload hx hb dL_law_1784 (lv_at hl 1 rfl) ?_
        refine lv_icmp_eq (tgt := 1791) hx hb dL_law_1786 (by decide) (fun _ => ?_) (fun hne => absurd rfl hne)
        refine lv_iload hx hb dL_law_1791 (lv_at hl 1 rfl) ?_
        refine lv_if_ne (tgt := 1808) hx hb dL_law_1793 (by decide) (fun _ => ?_) (fun h9 => absurd h9 (by decide))
        refine lv_goto (tgt := 2252) hx hb dL_law_1808 (by decide) ?_
        have hl := lv_sub hl [2, 3, 4, 5, 6, 7] (l' := [(0, .ref b), (1, .ref px), (2, .ref pm), (3, .ref po), (4, .ref pd), (5, .int (nI (4 * k)))]) rfl
        refine W.widen (k := 60 + 20 * (k + 1) + 37 * t) (n := 400 + 120 * (k + 1) + 162 * t) (by omega) (by omega) ?_
        refine W.base ?_
        exact hN s.drawn L κ g3 _ _ _ _ (Drawn.sameBut.refl _ _) hJ hko hkd hI hl
      · exact absurd w1 q1
      · exact absurd w1 q1
      · exact absurd w1 q1
    · cases hp
      have n_px_pm : px ≠ pm := z_apart hkx hkm (by decide)
      have n_px_rq : px ≠ rq := z_apart hkx hkq (by decide)
      have n_px_co : px ≠ co := z_apart hkx hkO (by decide)
      have n_px_sp : px ≠ sp := z_apart hkx hkS (by decide)
      have n_px_po : px ≠ po := z_apart hkx hko (by decide)
      have n_pm_px : pm ≠ px := z_apart hkm hkx (by decide)
      have n_pm_rq : pm ≠ rq := z_apart hkm hkq (by decide)
      have n_pm_co : pm ≠ co := z_apart hkm hkO (by decide)
      have n_pm_sp : pm ≠ sp := z_apart hkm hkS (by decide)
      have n_pm_po : pm ≠ po := z_apart hkm hko (by decide)
      have n_rq_px : rq ≠ px := z_apart hkq hkx (by decide)
      have n_rq_pm : rq ≠ pm := z_apart hkq hkm (by decide)
      have n_rq_co : rq ≠ co := z_apart hkq hkO (by decide)
      have n_rq_sp : rq ≠ sp := z_apart hkq hkS (by decide)
      have n_rq_po : rq ≠ po := z_apart hkq hko (by decide)
      have n_co_px : co ≠ px := z_apart hkO hkx (by decide)
      have n_co_pm : co ≠ pm := z_apart hkO hkm (by decide)
      have n_co_rq : co ≠ rq := z_apart hkO hkq (by decide)
      have n_co_sp : co ≠ sp := z_apart hkO hkS (by decide)
      have n_co_po : co ≠ po := z_apart hkO hko (by decide)
      have n_sp_px : sp ≠ px := z_apart hkS hkx (by decide)
      have n_sp_pm : sp ≠ pm := z_apart hkS hkm (by decide)
      have n_sp_rq : sp ≠ rq := z_apart hkS hkq (by decide)
      have n_sp_co : sp ≠ co := z_apart hkS hkO (by decide)
      have n_sp_po : sp ≠ po := z_apart hkS hko (by decide)
      have n_po_px : po ≠ px := z_apart hko hkx (by decide)
      have n_po_pm : po ≠ pm := z_apart hko hkm (by decide)
      have n_po_rq : po ≠ rq := z_apart hko hkq (by decide)
      have n_po_co : po ≠ co := z_apart hko hkO (by decide)
      have n_po_sp : po ≠ sp := z_apart hko hkS (by decide)
      have hz : zLc κ (zup g rq 6 (.int 118)) z0 px pm rq co sp aC aT t := hJ.1.up hkq (by decide)
      have hI : zI D tc (zA [] [] s.heap.size) s.heap [] L κ (zup g rq 6 (.int 118)) H locs := hI
      obtain ⟨g1, hg1⟩ : ∃ x, x = (zup g rq 6 (.int 118)) := ⟨_, rfl⟩
      rw [← hg1] at hI hz
      have hgm : ∀ j, g1 pm j = g pm j := fun j => by subst hg1; simp [zup, n_px_pm, n_px_rq, n_px_co, n_px_sp, n_px_po, n_pm_px, n_pm_rq, n_pm_co, n_pm_sp, n_pm_po, n_rq_px, n_rq_pm, n_rq_co, n_rq_sp, n_rq_po, n_co_px, n_co_pm, n_co_rq, n_co_sp, n_co_po, n_sp_px, n_sp_pm, n_sp_rq, n_sp_co, n_sp_po, n_po_px, n_po_pm, n_po_rq, n_po_co, n_po_sp]
      refine lv_istore (lv' := [(6, .int 1), (0, .ref b), (1, .ref px), (2, .ref pm), (3, .ref po), (4, .ref pd), (5, .int (nI (4 * k)))]) hx hb dL_law_1760 hl (by decide) rfl (fun ls hl => ?_)
      refine lv_aload_n hx hb dL_law_1762 rfl (lv_at hl 3 rfl) ?_
      refine lv_aload_n hx hb dL_law_1763 rfl (lv_at hl 1 rfl) ?_
      refine lv_iload hx hb dL_law_1764 (lv_at hl 6 rfl) ?_
      refine lv_iconst (v := 1) hx hb dL_law_1766 (by decide) ?_
      refine lv_iadd hx hb dL_law_1767 ?_
      rw [show nI (4 * k) + 1 = nI (4 * k + 1) from nI_add _ _]
      refine va_sld hx hb hX hbl hbA hI.2.1 (vp_in_nI (show 4 * k + 1 < N from by omega) (by omega)) dL_law_1768 ?_
      refine lv_aload_n hx hb dL_law_1769 rfl (lv_at hl 1 rfl) ?_
      refine lv_iload hx hb dL_law_1770 (lv_at hl 6 rfl) ?_
      refine lv_iconst (v := 2) hx hb dL_law_1772 (by decide) ?_
      refine lv_iadd hx hb dL_law_1773 ?_
      rw [show nI (4 * k) + 2 = nI (4 * k + 2) from nI_add _ _]
      refine va_sld hx hb hX hbl hbA hI.2.1 (vp_in_nI (show 4 * k + 2 < N from by omega) (by omega)) dL_law_1774 ?_
      obtain ⟨⟨hkx, hkm, hkq, hkO, hkS, hkC, hkT⟩, ⟨hR, hO, hS9, hC, hT⟩, ⟨htM, htb⟩, lc, eC, nC, mC, cf, lt, eT, nT, mT, tf, hMo, hCo, hTh⟩ := id hz
      refine z_ci hI (va_runV (As := [.int (xs (nI (4 * k + 1)).toNatClampNeg), .int (xs (nI (4 * k + 2)).toNatClampNeg)]) (rest := []) ⟨hx, hb, hml, hown, hts⟩ (c_X11_request l D tc z0 _ κ g1 _ pm hkm (xs (nI (4 * k + 1)).toNatClampNeg) (xs (nI (4 * k + 2)).toNatClampNeg)  n9 k9 ((hgm 18).trans (a0.symm.trans hn9)) ((hgm 13).trans (a1.symm.trans hk9))) (cwV 2 hts gL_law_X11_request rfl rfl rfl (by decide +kernel) ⟨Nat.le_of_ble_eq_true rfl, Nat.le_of_ble_eq_true rfl⟩) (z_preV (Xc := []) hK hE hI [] rfl rfl (z_recv hK hI hkm rfl rfl)) rfl rfl hl.1 rfl (lv_room (Nat.le_of_ble_eq_true rfl)) dL_law_1775 ⟨(show 60 + 20 * k + 37 * t + 1 + 0 ≤ 746514 from by omega), (show 400 + 120 * k + 162 * t + 6 + 0 ≤ 6862693 from by omega)⟩) (fun w u H locs hw hI => ?_)
      rcases hw with ⟨w0, w1, hu⟩ | ⟨w0, w1, w2, hu⟩ | ⟨w0, w1, w2, w3, hu⟩ | ⟨w1, w2, w3, w0, hu⟩
      · exact absurd q1 w1
      · cases hu
        have hcd : (zup (zup g1 pm 12 (.int 1)) pm 26 (.int 118)) pm 12 = .int 1 := by simp [zup, n_px_pm, n_px_rq, n_px_co, n_px_sp, n_px_po, n_pm_px, n_pm_rq, n_pm_co, n_pm_sp, n_pm_po, n_rq_px, n_rq_pm, n_rq_co, n_rq_sp, n_rq_po, n_co_px, n_co_pm, n_co_rq, n_co_sp, n_co_po, n_sp_px, n_sp_pm, n_sp_rq, n_sp_co, n_sp_po, n_po_px, n_po_pm, n_po_rq, n_po_co, n_po_sp]
        have hJ : zJ κ (zup (zup g1 pm 12 (.int 1)) pm 26 (.int 118)) z0 px pm rq co sp aC aT t := ⟨(hz.upM (by decide)).upM (by decide), (by unfold zAg; subst hg1; simp [zup, n_px_pm, n_px_rq, n_px_co, n_px_sp, n_px_po, n_pm_px, n_pm_rq, n_pm_co, n_pm_sp, n_pm_po, n_rq_px, n_rq_pm, n_rq_co, n_rq_sp, n_rq_po, n_co_px, n_co_pm, n_co_rq, n_co_sp, n_co_po, n_sp_px, n_sp_pm, n_sp_rq, n_sp_co, n_sp_po, n_po_px, n_po_pm, n_po_rq, n_po_co, n_po_sp, a0, a1, a2, a3, a4, a5, a6, a7])⟩
        have hI : zI D tc (zA [] [] s.heap.size) s.heap [] L κ (zup (zup g1 pm 12 (.int 1)) pm 26 (.int 118)) H locs := hI
        generalize (zup (zup g1 pm 12 (.int 1)) pm 26 (.int 118)) = g3 at hI hJ hcd
        refine lv_istore (lv' := [(7, .int w), (6, .int 1), (0, .ref b), (1, .ref px), (2, .ref pm), (3, .ref po), (4, .ref pd), (5, .int (nI (4 * k)))]) hx hb dL_law_1778 hl (by decide) rfl (fun ls hl => ?_)
        refine lv_aload_n hx hb dL_law_1780 rfl (lv_at hl 4 rfl) ?_
        refine z_ci hI (va_runV (As := []) (rest := []) ⟨hx, hb, hml, hown, hts⟩ (c_X11_thrown l D tc z0 _ κ g3 _ pm hkm) (cwV 0 hts gL_law_X11_thrown rfl rfl rfl (by decide +kernel) ⟨Nat.le_of_ble_eq_true rfl, Nat.le_of_ble_eq_true rfl⟩) (z_preV (Xc := []) hK hE hI [] rfl rfl (z_recv hK hI hkm rfl rfl)) rfl rfl hl.1 rfl (lv_room (Nat.le_of_ble_eq_true rfl)) dL_law_1781 ⟨(show 60 + 20 * k + 37 * t + 1 + 0 + 0 ≤ 746514 from by omega), (show 400 + 120 * k + 162 * t + 6 + 0 + 0 ≤ 6862693 from by omega)⟩) (fun w2 u H locs hw hI => ?_)
        obtain ⟨hw2, rfl⟩ := hw
        have hI : zI D tc (zA [] [] s.heap.size) s.heap [] L κ g3 H locs := hI
        obtain rfl : w2 = 1 := Value.int.inj (hw2.symm.trans hcd)
        refine lv_iload hx hb dL_law_1784 (lv_at hl 1 rfl) ?_
        refine lv_icmp_eq (tgt := 1791) hx hb dL_law_1786 (by decide) (fun _ => ?_) (fun hne => absurd rfl hne)
        refine lv_iload hx hb dL_law_1791 (lv_at hl 1 rfl) ?_
        refine lv_if_ne (tgt := 1808) hx hb dL_law_1793 (by decide) (fun _ => ?_) (fun h9 => absurd h9 (by decide))
        refine lv_goto (tgt := 2252) hx hb dL_law_1808 (by decide) ?_
        have hl := lv_sub hl [2, 3, 4, 5, 6, 7] (l' := [(0, .ref b), (1, .ref px), (2, .ref pm), (3, .ref po), (4, .ref pd), (5, .int (nI (4 * k)))]) rfl
        refine W.widen (k := 60 + 20 * (k + 1) + 37 * t) (n := 400 + 120 * (k + 1) + 162 * t) (by omega) (by omega) ?_
        refine W.base ?_
        exact hN s.drawn L κ g3 _ _ _ _ (Drawn.sameBut.refl _ _) hJ hko hkd hI hl
      · exact absurd w2 q2
      · exact absurd w2 q2
    · exact absurd q0 (by decide)
  · rcases hp with ⟨q0, _⟩ | ⟨q0, _⟩ | ⟨_, q1, q2, q3, hp⟩
    · exact absurd q0 (by decide)
    · exact absurd q0 (by decide)
    · cases hp
      have n_px_pm : px ≠ pm := z_apart hkx hkm (by decide)
      have n_px_rq : px ≠ rq := z_apart hkx hkq (by decide)
      have n_px_co : px ≠ co := z_apart hkx hkO (by decide)
      have n_px_sp : px ≠ sp := z_apart hkx hkS (by decide)
      have n_px_po : px ≠ po := z_apart hkx hko (by decide)
      have n_pm_px : pm ≠ px := z_apart hkm hkx (by decide)
      have n_pm_rq : pm ≠ rq := z_apart hkm hkq (by decide)
      have n_pm_co : pm ≠ co := z_apart hkm hkO (by decide)
      have n_pm_sp : pm ≠ sp := z_apart hkm hkS (by decide)
      have n_pm_po : pm ≠ po := z_apart hkm hko (by decide)
      have n_rq_px : rq ≠ px := z_apart hkq hkx (by decide)
      have n_rq_pm : rq ≠ pm := z_apart hkq hkm (by decide)
      have n_rq_co : rq ≠ co := z_apart hkq hkO (by decide)
      have n_rq_sp : rq ≠ sp := z_apart hkq hkS (by decide)
      have n_rq_po : rq ≠ po := z_apart hkq hko (by decide)
      have n_co_px : co ≠ px := z_apart hkO hkx (by decide)
      have n_co_pm : co ≠ pm := z_apart hkO hkm (by decide)
      have n_co_rq : co ≠ rq := z_apart hkO hkq (by decide)
      have n_co_sp : co ≠ sp := z_apart hkO hkS (by decide)
      have n_co_po : co ≠ po := z_apart hkO hko (by decide)
      have n_sp_px : sp ≠ px := z_apart hkS hkx (by decide)
      have n_sp_pm : sp ≠ pm := z_apart hkS hkm (by decide)
      have n_sp_rq : sp ≠ rq := z_apart hkS hkq (by decide)
      have n_sp_co : sp ≠ co := z_apart hkS hkO (by decide)
      have n_sp_po : sp ≠ po := z_apart hkS hko (by decide)
      have n_po_px : po ≠ px := z_apart hko hkx (by decide)
      have n_po_pm : po ≠ pm := z_apart hko hkm (by decide)
      have n_po_rq : po ≠ rq := z_apart hko hkq (by decide)
      have n_po_co : po ≠ co := z_apart hko hkO (by decide)
      have n_po_sp : po ≠ sp := z_apart hko hkS (by decide)
      have hz : zLc κ (zup g rq 6 (.int 115)) z0 px pm rq co sp aC aT t := hJ.1.up hkq (by decide)
      have hI : zI D tc (zA [] [] s.heap.size) s.heap [] L κ (zup g rq 6 (.int 115)) H locs := hI
      obtain ⟨g1, hg1⟩ : ∃ x, x = (zup g rq 6 (.int 115)) := ⟨_, rfl⟩
      rw [← hg1] at hI hz
      have hgm : ∀ j, g1 pm j = g pm j := fun j => by subst hg1; simp [zup, n_px_pm, n_px_rq, n_px_co, n_px_sp, n_px_po, n_pm_px, n_pm_rq, n_pm_co, n_pm_sp, n_pm_po, n_rq_px, n_rq_pm, n_rq_co, n_rq_sp, n_rq_po, n_co_px, n_co_pm, n_co_rq, n_co_sp, n_co_po, n_sp_px, n_sp_pm, n_sp_rq, n_sp_co, n_sp_po, n_po_px, n_po_pm, n_po_rq, n_po_co, n_po_sp]
      refine lv_istore (lv' := [(6, .int 2), (0, .ref b), (1, .ref px), (2, .ref pm), (3, .ref po), (4, .ref pd), (5, .int (nI (4 * k)))]) hx hb dL_law_1760 hl (by decide) rfl (fun ls hl => ?_)
      refine lv_aload_n hx hb dL_law_1762 rfl (lv_at hl 3 rfl) ?_
      refine lv_aload_n hx hb dL_law_1763 rfl (lv_at hl 1 rfl) ?_
      refine lv_iload hx hb dL_law_1764 (lv_at hl 6 rfl) ?_
      refine lv_iconst (v := 1) hx hb dL_law_1766 (by decide) ?_
      refine lv_iadd hx hb dL_law_1767 ?_
      rw [show nI (4 * k) + 1 = nI (4 * k + 1) from nI_add _ _]
      refine va_sld hx hb hX hbl hbA hI.2.1 (vp_in_nI (show 4 * k + 1 < N from by omega) (by omega)) dL_law_1768 ?_
      refine lv_aload_n hx hb dL_law_1769 rfl (lv_at hl 1 rfl) ?_
      refine lv_iload hx hb dL_law_1770 (lv_at hl 6 rfl) ?_
      refine lv_iconst (v := 2) hx hb dL_law_1772 (by decide) ?_
      refine lv_iadd hx hb dL_law_1773 ?_
      rw [show nI (4 * k) + 2 = nI (4 * k + 2) from nI_add _ _]
      refine va_sld hx hb hX hbl hbA hI.2.1 (vp_in_nI (show 4 * k + 2 < N from by omega) (by omega)) dL_law_1774 ?_
      obtain ⟨⟨hkx, hkm, hkq, hkO, hkS, hkC, hkT⟩, ⟨hR, hO, hS9, hC, hT⟩, ⟨htM, htb⟩, lc, eC, nC, mC, cf, lt, eT, nT, mT, tf, hMo, hCo, hTh⟩ := id hz
      refine z_ci hI (va_runV (As := [.int (xs (nI (4 * k + 1)).toNatClampNeg), .int (xs (nI (4 * k + 2)).toNatClampNeg)]) (rest := []) ⟨hx, hb, hml, hown, hts⟩ (c_X11_request l D tc z0 _ κ g1 _ pm hkm (xs (nI (4 * k + 1)).toNatClampNeg) (xs (nI (4 * k + 2)).toNatClampNeg)  n9 k9 ((hgm 18).trans (a0.symm.trans hn9)) ((hgm 13).trans (a1.symm.trans hk9))) (cwV 2 hts gL_law_X11_request rfl rfl rfl (by decide +kernel) ⟨Nat.le_of_ble_eq_true rfl, Nat.le_of_ble_eq_true rfl⟩) (z_preV (Xc := []) hK hE hI [] rfl rfl (z_recv hK hI hkm rfl rfl)) rfl rfl hl.1 rfl (lv_room (Nat.le_of_ble_eq_true rfl)) dL_law_1775 ⟨(show 60 + 20 * k + 37 * t + 1 + 0 ≤ 746514 from by omega), (show 400 + 120 * k + 162 * t + 6 + 0 ≤ 6862693 from by omega)⟩) (fun w u H locs hw hI => ?_)
      rcases hw with ⟨w0, w1, hu⟩ | ⟨w0, w1, w2, hu⟩ | ⟨w0, w1, w2, w3, hu⟩ | ⟨w1, w2, w3, w0, hu⟩
      · exact absurd q1 w1
      · exact absurd q2 w2
      · cases hu
        have hcd : (zup (zup g1 pm 12 (.int 2)) pm 26 (.int 115)) pm 12 = .int 2 := by simp [zup, n_px_pm, n_px_rq, n_px_co, n_px_sp, n_px_po, n_pm_px, n_pm_rq, n_pm_co, n_pm_sp, n_pm_po, n_rq_px, n_rq_pm, n_rq_co, n_rq_sp, n_rq_po, n_co_px, n_co_pm, n_co_rq, n_co_sp, n_co_po, n_sp_px, n_sp_pm, n_sp_rq, n_sp_co, n_sp_po, n_po_px, n_po_pm, n_po_rq, n_po_co, n_po_sp]
        have hJ : zJ κ (zup (zup g1 pm 12 (.int 2)) pm 26 (.int 115)) z0 px pm rq co sp aC aT t := ⟨(hz.upM (by decide)).upM (by decide), (by unfold zAg; subst hg1; simp [zup, n_px_pm, n_px_rq, n_px_co, n_px_sp, n_px_po, n_pm_px, n_pm_rq, n_pm_co, n_pm_sp, n_pm_po, n_rq_px, n_rq_pm, n_rq_co, n_rq_sp, n_rq_po, n_co_px, n_co_pm, n_co_rq, n_co_sp, n_co_po, n_sp_px, n_sp_pm, n_sp_rq, n_sp_co, n_sp_po, n_po_px, n_po_pm, n_po_rq, n_po_co, n_po_sp, a0, a1, a2, a3, a4, a5, a6, a7])⟩
        have hI : zI D tc (zA [] [] s.heap.size) s.heap [] L κ (zup (zup g1 pm 12 (.int 2)) pm 26 (.int 115)) H locs := hI
        generalize (zup (zup g1 pm 12 (.int 2)) pm 26 (.int 115)) = g3 at hI hJ hcd
        refine lv_istore (lv' := [(7, .int w), (6, .int 2), (0, .ref b), (1, .ref px), (2, .ref pm), (3, .ref po), (4, .ref pd), (5, .int (nI (4 * k)))]) hx hb dL_law_1778 hl (by decide) rfl (fun ls hl => ?_)
        refine lv_aload_n hx hb dL_law_1780 rfl (lv_at hl 4 rfl) ?_
        refine z_ci hI (va_runV (As := []) (rest := []) ⟨hx, hb, hml, hown, hts⟩ (c_X11_thrown l D tc z0 _ κ g3 _ pm hkm) (cwV 0 hts gL_law_X11_thrown rfl rfl rfl (by decide +kernel) ⟨Nat.le_of_ble_eq_true rfl, Nat.le_of_ble_eq_true rfl⟩) (z_preV (Xc := []) hK hE hI [] rfl rfl (z_recv hK hI hkm rfl rfl)) rfl rfl hl.1 rfl (lv_room (Nat.le_of_ble_eq_true rfl)) dL_law_1781 ⟨(show 60 + 20 * k + 37 * t + 1 + 0 + 0 ≤ 746514 from by omega), (show 400 + 120 * k + 162 * t + 6 + 0 + 0 ≤ 6862693 from by omega)⟩) (fun w2 u H locs hw hI => ?_)
        obtain ⟨hw2, rfl⟩ := hw
        have hI : zI D tc (zA [] [] s.heap.size) s.heap [] L κ g3 H locs := hI
        obtain rfl : w2 = 2 := Value.int.inj (hw2.symm.trans hcd)
        refine lv_iload hx hb dL_law_1784 (lv_at hl 1 rfl) ?_
        refine lv_icmp_eq (tgt := 1791) hx hb dL_law_1786 (by decide) (fun _ => ?_) (fun hne => absurd rfl hne)
        refine lv_iload hx hb dL_law_1791 (lv_at hl 1 rfl) ?_
        refine lv_if_ne (tgt := 1808) hx hb dL_law_1793 (by decide) (fun _ => ?_) (fun h9 => absurd h9 (by decide))
        refine lv_goto (tgt := 2252) hx hb dL_law_1808 (by decide) ?_
        have hl := lv_sub hl [2, 3, 4, 5, 6, 7] (l' := [(0, .ref b), (1, .ref px), (2, .ref pm), (3, .ref po), (4, .ref pd), (5, .int (nI (4 * k)))]) rfl
        refine W.widen (k := 60 + 20 * (k + 1) + 37 * t) (n := 400 + 120 * (k + 1) + 162 * t) (by omega) (by omega) ?_
        refine W.base ?_
        exact hN s.drawn L κ g3 _ _ _ _ (Drawn.sameBut.refl _ _) hJ hko hkd hI hl
      · exact absurd (Int32.lt_of_lt_of_le w3 q3) Int32.lt_irrefl

set_option maxHeartbeats 4000000 in
set_option maxRecDepth 100000 in
theorem k_holds (l : Launch) (hnt : l.stackTraces = false) {p : Program} {e : Env} {s : State} {m : MethodId} {below : List Frame} {meth : Method} {c : Code} {H : Heap} {locs : List Loc} {Q : State → Prop} {D : va_G} {tc : Nat → ClassId} {z0 b N : Nat} {xs : Nat → Int32} {px pm po pd rq co sp aC aT t k : Nat} {L : List Nat} {κ : Nat → Nat} {g : Nat → Nat → Value} {ls : Array Slot} (C : lwC p s m meth c b N xs D tc z0) (hk : 4 * k + 4 ≤ N) (hN8 : N ≤ 2048) (hJ : zJ κ g z0 px pm rq co sp aC aT t) (h0 : (∀ j, g aC j = .null) ∧ ∀ j, g aT j = .null) (hko : κ po = 29) (hkd : κ pd = 30) (hI : zI D tc (zA [] [] s.heap.size) s.heap [] L κ g H locs) (hl : lv_has ls 9 [(0, .ref b), (1, .ref px), (2, .ref pm), (3, .ref po), (4, .ref pd), (5, .int (nI (4 * k)))]) (hN : lwN p l e s m below meth c b D tc z0 px pm po pd rq co sp aC aT k Q) : W p l e room_1 s m #[Value.ref b] below meth c H locs (60 + 20 * k + 37 * t) (400 + 120 * k + 162 * t) Q (F0 m 1811 ls []) := by
  obtain ⟨hx, hb, hml, hown, hts, hK, hE, hX, hbl⟩ := C
  have hbA : ¬ zA [] [] s.heap.size b := fun q => by rcases q with q | q | q; exact absurd q List.not_mem_nil; exact absurd q List.not_mem_nil; exact absurd hbl (Nat.not_lt.mpr q)
  have htb9 : t ≤ 9999 := hJ.1.2.2.1.2
  refine lv_aload_n hx hb dL_law_1811 rfl (lv_at hl 1 rfl) ?_
  obtain ⟨⟨⟨hkx, hkm, hkq, hkO, hkS, hkC, hkT⟩, ⟨hR, hO, hS9, hC, hT⟩, ⟨htM, htb⟩, lc, eC, nC, mC, cf, lt, eT, nT, mT, tf, hMo, hCo, hTh⟩, a0, a1, a2, a3, a4, a5, a6, a7⟩ := id hJ
  refine z_ci hI (va_runV (As := []) (rest := []) ⟨hx, hb, hml, hown, hts⟩ (c_X8_holds l D tc z0 _ κ g _ px hkx  rq hR) (cwV 0 hts gL_law_X8_holds rfl rfl rfl (by decide +kernel) ⟨Nat.le_of_ble_eq_true rfl, Nat.le_of_ble_eq_true rfl⟩) (z_preV (Xc := []) hK hE hI [] rfl rfl (z_recv hK hI hkx rfl rfl)) rfl rfl hl.1 rfl (lv_room (Nat.le_of_ble_eq_true rfl)) dL_law_1812 ⟨(show 60 + 20 * k + 37 * t + 0 ≤ 746514 from by omega), (show 400 + 120 * k + 162 * t + 0 ≤ 6862693 from by omega)⟩) (fun v u H locs hw hI => ?_)
  obtain ⟨hhx, rfl⟩ := hw
  have hI : zI D tc (zA [] [] s.heap.size) s.heap [] L κ g H locs := hI
  refine lv_aload_n hx hb dL_law_1815 rfl (lv_at hl 2 rfl) ?_
  obtain ⟨⟨⟨hkx, hkm, hkq, hkO, hkS, hkC, hkT⟩, ⟨hR, hO, hS9, hC, hT⟩, ⟨htM, htb⟩, lc, eC, nC, mC, cf, lt, eT, nT, mT, tf, hMo, hCo, hTh⟩, a0, a1, a2, a3, a4, a5, a6, a7⟩ := id hJ
  refine z_ci hI (va_runV (As := []) (rest := [.int v]) ⟨hx, hb, hml, hown, hts⟩ (c_X11_holds l D tc z0 _ κ g _ pm hkm   ) (cwV 0 hts gL_law_X11_holds rfl rfl rfl (by decide +kernel) ⟨Nat.le_of_ble_eq_true rfl, Nat.le_of_ble_eq_true rfl⟩) (z_preV (Xc := []) hK hE hI [] rfl rfl (z_recv hK hI hkm rfl rfl)) rfl rfl hl.1 rfl (lv_room (Nat.le_of_ble_eq_true rfl)) dL_law_1816 ⟨(show 60 + 20 * k + 37 * t + 0 + 0 ≤ 746514 from by omega), (show 400 + 120 * k + 162 * t + 0 + 0 ≤ 6862693 from by omega)⟩) (fun w u H locs hw hI => ?_)
  have hJ0 := hJ
  obtain ⟨hhm, rfl⟩ := hw
  have hJ := hJ.upM (j := 12) (v := .int 0) (by decide)
  have hI : zI D tc (zA [] [] s.heap.size) s.heap [] L κ (zup g pm 12 (.int 0)) H locs := hI
  generalize (zup g pm 12 (.int 0)) = g at hI hJ
  refine lv_icmp_eq (tgt := 2252) hx hb dL_law_1819 (by decide) (fun _ => ?_) (fun hne => absurd (by have e1 := hhx.symm.trans (hJ0.2.2.2.1.trans hhm); exact Value.int.inj e1) hne)
  have hl := lv_sub hl [0, 1, 2, 3, 4, 5] (l' := [(0, .ref b), (1, .ref px), (2, .ref pm), (3, .ref po), (4, .ref pd), (5, .int (nI (4 * k)))]) rfl
  refine W.widen (k := 60 + 20 * (k + 1) + 37 * t) (n := 400 + 120 * (k + 1) + 162 * t) (by omega) (by omega) ?_
  refine W.base ?_
  exact hN s.drawn L κ g _ _ _ _ (Drawn.sameBut.refl _ _) hJ hko hkd hI hl

set_option maxHeartbeats 4000000 in
set_option maxRecDepth 100000 in
theorem k_why (l : Launch) (hnt : l.stackTraces = false) {p : Program} {e : Env} {s : State} {m : MethodId} {below : List Frame} {meth : Method} {c : Code} {H : Heap} {locs : List Loc} {Q : State → Prop} {D : va_G} {tc : Nat → ClassId} {z0 b N : Nat} {xs : Nat → Int32} {px pm po pd rq co sp aC aT t k : Nat} {L : List Nat} {κ : Nat → Nat} {g : Nat → Nat → Value} {ls : Array Slot} (C : lwC p s m meth c b N xs D tc z0) (hk : 4 * k + 4 ≤ N) (hN8 : N ≤ 2048) (hJ : zJ κ g z0 px pm rq co sp aC aT t) (h0 : (∀ j, g aC j = .null) ∧ ∀ j, g aT j = .null) (hko : κ po = 29) (hkd : κ pd = 30) (hI : zI D tc (zA [] [] s.heap.size) s.heap [] L κ g H locs) (hl : lv_has ls 9 [(0, .ref b), (1, .ref px), (2, .ref pm), (3, .ref po), (4, .ref pd), (5, .int (nI (4 * k)))]) (hN : lwN p l e s m below meth c b D tc z0 px pm po pd rq co sp aC aT k Q) : W p l e room_1 s m #[Value.ref b] below meth c H locs (60 + 20 * k + 37 * t) (400 + 120 * k + 162 * t) Q (F0 m 1824 ls []) := by
  obtain ⟨hx, hb, hml, hown, hts, hK, hE, hX, hbl⟩ := C
  have hbA : ¬ zA [] [] s.heap.size b := fun q => by rcases q with q | q | q; exact absurd q List.not_mem_nil; exact absurd q List.not_mem_nil; exact absurd hbl (Nat.not_lt.mpr q)
  have htb9 : t ≤ 9999 := hJ.1.2.2.1.2
  refine lv_aload_n hx hb dL_law_1824 rfl (lv_at hl 1 rfl) ?_
  obtain ⟨⟨⟨hkx, hkm, hkq, hkO, hkS, hkC, hkT⟩, ⟨hR, hO, hS9, hC, hT⟩, ⟨htM, htb⟩, lc, eC, nC, mC, cf, lt, eT, nT, mT, tf, hMo, hCo, hTh⟩, a0, a1, a2, a3, a4, a5, a6, a7⟩ := id hJ
  refine z_ci hI (va_runV (As := []) (rest := []) ⟨hx, hb, hml, hown, hts⟩ (c_X8_why l D tc z0 _ κ g _ px hkx  rq hR) (cwV 0 hts gL_law_X8_why rfl rfl rfl (by decide +kernel) ⟨Nat.le_of_ble_eq_true rfl, Nat.le_of_ble_eq_true rfl⟩) (z_preV (Xc := []) hK hE hI [] rfl rfl (z_recv hK hI hkx rfl rfl)) rfl rfl hl.1 rfl (lv_room (Nat.le_of_ble_eq_true rfl)) dL_law_1825 ⟨(show 60 + 20 * k + 37 * t + 0 ≤ 746514 from by omega), (show 400 + 120 * k + 162 * t + 0 ≤ 6862693 from by omega)⟩) (fun v u H locs hw hI => ?_)
  obtain ⟨hwy, rfl⟩ := hw
  have hI : zI D tc (zA [] [] s.heap.size) s.heap [] L κ g H locs := hI
  refine lv_aload_n hx hb dL_law_1828 rfl (lv_at hl 2 rfl) ?_
  obtain ⟨⟨⟨hkx, hkm, hkq, hkO, hkS, hkC, hkT⟩, ⟨hR, hO, hS9, hC, hT⟩, ⟨htM, htb⟩, lc, eC, nC, mC, cf, lt, eT, nT, mT, tf, hMo, hCo, hTh⟩, a0, a1, a2, a3, a4, a5, a6, a7⟩ := id hJ
  refine z_ci hI (va_runV (As := []) (rest := [.int v]) ⟨hx, hb, hml, hown, hts⟩ (c_X11_why l D tc z0 _ κ g _ pm hkm   ) (cwV 0 hts gL_law_X11_why rfl rfl rfl (by decide +kernel) ⟨Nat.le_of_ble_eq_true rfl, Nat.le_of_ble_eq_true rfl⟩) (z_preV (Xc := []) hK hE hI [] rfl rfl (z_recv hK hI hkm rfl rfl)) rfl rfl hl.1 rfl (lv_room (Nat.le_of_ble_eq_true rfl)) dL_law_1829 ⟨(show 60 + 20 * k + 37 * t + 0 + 0 ≤ 746514 from by omega), (show 400 + 120 * k + 162 * t + 0 + 0 ≤ 6862693 from by omega)⟩) (fun w u H locs hw hI => ?_)
  have hJ0 := hJ
  obtain ⟨hwm, rfl⟩ := hw
  have hJ := hJ.upM (j := 12) (v := .int 0) (by decide)
  have hI : zI D tc (zA [] [] s.heap.size) s.heap [] L κ (zup g pm 12 (.int 0)) H locs := hI
  generalize (zup g pm 12 (.int 0)) = g at hI hJ
  refine lv_icmp_eq (tgt := 2252) hx hb dL_law_1832 (by decide) (fun _ => ?_) (fun hne => absurd (by have e1 := hwy.symm.trans (hJ0.2.2.2.2.2.1.trans hwm); exact Value.int.inj e1) hne)
  have hl := lv_sub hl [0, 1, 2, 3, 4, 5] (l' := [(0, .ref b), (1, .ref px), (2, .ref pm), (3, .ref po), (4, .ref pd), (5, .int (nI (4 * k)))]) rfl
  refine W.widen (k := 60 + 20 * (k + 1) + 37 * t) (n := 400 + 120 * (k + 1) + 162 * t) (by omega) (by omega) ?_
  refine W.base ?_
  exact hN s.drawn L κ g _ _ _ _ (Drawn.sameBut.refl _ _) hJ hko hkd hI hl

set_option maxHeartbeats 4000000 in
set_option maxRecDepth 100000 in
theorem k_drop (l : Launch) (hnt : l.stackTraces = false) {p : Program} {e : Env} {s : State} {m : MethodId} {below : List Frame} {meth : Method} {c : Code} {H : Heap} {locs : List Loc} {Q : State → Prop} {D : va_G} {tc : Nat → ClassId} {z0 b N : Nat} {xs : Nat → Int32} {px pm po pd rq co sp aC aT t k : Nat} {L : List Nat} {κ : Nat → Nat} {g : Nat → Nat → Value} {ls : Array Slot} (C : lwC p s m meth c b N xs D tc z0) (hk : 4 * k + 4 ≤ N) (hN8 : N ≤ 2048) (hJ : zJ κ g z0 px pm rq co sp aC aT t) (h0 : (∀ j, g aC j = .null) ∧ ∀ j, g aT j = .null) (hko : κ po = 29) (hkd : κ pd = 30) (hI : zI D tc (zA [] [] s.heap.size) s.heap [] L κ g H locs) (hl : lv_has ls 9 [(0, .ref b), (1, .ref px), (2, .ref pm), (3, .ref po), (4, .ref pd), (5, .int (nI (4 * k)))]) (hN : lwN p l e s m below meth c b D tc z0 px pm po pd rq co sp aC aT k Q) : W p l e room_1 s m #[Value.ref b] below meth c H locs (60 + 20 * k + 37 * t) (400 + 120 * k + 162 * t) Q (F0 m 1837 ls []) := by
  obtain ⟨hx, hb, hml, hown, hts, hK, hE, hX, hbl⟩ := C
  have hbA : ¬ zA [] [] s.heap.size b := fun q => by rcases q with q | q | q; exact absurd q List.not_mem_nil; exact absurd q List.not_mem_nil; exact absurd hbl (Nat.not_lt.mpr q)
  have htb9 : t ≤ 9999 := hJ.1.2.2.1.2
  refine lv_aload_n hx hb dL_law_1837 rfl (lv_at hl 1 rfl) ?_
  obtain ⟨⟨⟨hkx, hkm, hkq, hkO, hkS, hkC, hkT⟩, ⟨hR, hO, hS9, hC, hT⟩, ⟨htM, htb⟩, lc, eC, nC, mC, cf, lt, eT, nT, mT, tf, hMo, hCo, hTh⟩, a0, a1, a2, a3, a4, a5, a6, a7⟩ := id hJ
  obtain ⟨h9, hh9⟩ := z_gi (j := 2) hI hkq rfl rfl
  obtain ⟨w9, hw9⟩ := z_gi (j := 4) hI hkq rfl rfl
  refine z_ci hI (va_runV (As := []) (rest := []) ⟨hx, hb, hml, hown, hts⟩ (c_X8_drop l D tc z0 _ κ g _ px hkx  rq hR h9 w9 hh9 hw9) (cwV 0 hts gL_law_X8_drop rfl rfl rfl (by decide +kernel) ⟨Nat.le_of_ble_eq_true rfl, Nat.le_of_ble_eq_true rfl⟩) (z_preV (Xc := []) hK hE hI [] rfl rfl (z_recv hK hI hkx rfl rfl)) rfl rfl hl.1 rfl (lv_room (Nat.le_of_ble_eq_true rfl)) dL_law_1838 ⟨(show 60 + 20 * k + 37 * t + 0 ≤ 746514 from by omega), (show 400 + 120 * k + 162 * t + 0 ≤ 6862693 from by omega)⟩) (fun v u H locs hw hI => ?_)
  obtain ⟨rfl, hr1⟩ := hw
  have n_px_pm : px ≠ pm := z_apart hkx hkm (by decide)
  have n_px_rq : px ≠ rq := z_apart hkx hkq (by decide)
  have n_px_co : px ≠ co := z_apart hkx hkO (by decide)
  have n_px_sp : px ≠ sp := z_apart hkx hkS (by decide)
  have n_px_po : px ≠ po := z_apart hkx hko (by decide)
  have n_pm_px : pm ≠ px := z_apart hkm hkx (by decide)
  have n_pm_rq : pm ≠ rq := z_apart hkm hkq (by decide)
  have n_pm_co : pm ≠ co := z_apart hkm hkO (by decide)
  have n_pm_sp : pm ≠ sp := z_apart hkm hkS (by decide)
  have n_pm_po : pm ≠ po := z_apart hkm hko (by decide)
  have n_rq_px : rq ≠ px := z_apart hkq hkx (by decide)
  have n_rq_pm : rq ≠ pm := z_apart hkq hkm (by decide)
  have n_rq_co : rq ≠ co := z_apart hkq hkO (by decide)
  have n_rq_sp : rq ≠ sp := z_apart hkq hkS (by decide)
  have n_rq_po : rq ≠ po := z_apart hkq hko (by decide)
  have n_co_px : co ≠ px := z_apart hkO hkx (by decide)
  have n_co_pm : co ≠ pm := z_apart hkO hkm (by decide)
  have n_co_rq : co ≠ rq := z_apart hkO hkq (by decide)
  have n_co_sp : co ≠ sp := z_apart hkO hkS (by decide)
  have n_co_po : co ≠ po := z_apart hkO hko (by decide)
  have n_sp_px : sp ≠ px := z_apart hkS hkx (by decide)
  have n_sp_pm : sp ≠ pm := z_apart hkS hkm (by decide)
  have n_sp_rq : sp ≠ rq := z_apart hkS hkq (by decide)
  have n_sp_co : sp ≠ co := z_apart hkS hkO (by decide)
  have n_sp_po : sp ≠ po := z_apart hkS hko (by decide)
  have n_po_px : po ≠ px := z_apart hko hkx (by decide)
  have n_po_pm : po ≠ pm := z_apart hko hkm (by decide)
  have n_po_rq : po ≠ rq := z_apart hko hkq (by decide)
  have n_po_co : po ≠ co := z_apart hko hkO (by decide)
  have n_po_sp : po ≠ sp := z_apart hko hkS (by decide)
  have hz : zLc κ (zup (zup g rq 2 (.int 0)) rq 4 (.int 0)) z0 px pm rq co sp aC aT t := (hJ.1.up hkq (by decide)).up hkq (by decide)
  have hI : zI D tc (zA [] [] s.heap.size) s.heap [] L κ (zup (zup g rq 2 (.int 0)) rq 4 (.int 0)) H locs := hI
  obtain ⟨g1, hg1⟩ : ∃ x, x = (zup (zup g rq 2 (.int 0)) rq 4 (.int 0)) := ⟨_, rfl⟩
  rw [← hg1] at hI hz
  have hgm : ∀ j, g1 pm j = g pm j := fun j => by subst hg1; simp [zup, n_px_pm, n_px_rq, n_px_co, n_px_sp, n_px_po, n_pm_px, n_pm_rq, n_pm_co, n_pm_sp, n_pm_po, n_rq_px, n_rq_pm, n_rq_co, n_rq_sp, n_rq_po, n_co_px, n_co_pm, n_co_rq, n_co_sp, n_co_po, n_sp_px, n_sp_pm, n_sp_rq, n_sp_co, n_sp_po, n_po_px, n_po_pm, n_po_rq, n_po_co, n_po_sp]
  refine lv_aload_n hx hb dL_law_1841 rfl (lv_at hl 2 rfl) ?_
  obtain ⟨⟨hkx, hkm, hkq, hkO, hkS, hkC, hkT⟩, ⟨hR, hO, hS9, hC, hT⟩, ⟨htM, htb⟩, lc, eC, nC, mC, cf, lt, eT, nT, mT, tf, hMo, hCo, hTh⟩ := id hz
  refine z_ci hI (va_runV (As := []) (rest := [.int v]) ⟨hx, hb, hml, hown, hts⟩ (c_X11_drop l D tc z0 _ κ g1 _ pm hkm   h9 w9 ((hgm 14).trans (a2.symm.trans hh9)) ((hgm 16).trans (a3.symm.trans hw9))) (cwV 0 hts gL_law_X11_drop rfl rfl rfl (by decide +kernel) ⟨Nat.le_of_ble_eq_true rfl, Nat.le_of_ble_eq_true rfl⟩) (z_preV (Xc := []) hK hE hI [] rfl rfl (z_recv hK hI hkm rfl rfl)) rfl rfl hl.1 rfl (lv_room (Nat.le_of_ble_eq_true rfl)) dL_law_1842 ⟨(show 60 + 20 * k + 37 * t + 0 + 0 ≤ 746514 from by omega), (show 400 + 120 * k + 162 * t + 0 + 0 ≤ 6862693 from by omega)⟩) (fun w u H locs hw hI => ?_)
  obtain ⟨hr2, rfl⟩ := hw
  have hJ : zJ κ (zup (zup (zup g1 pm 12 (.int 0)) pm 14 (.int 0)) pm 16 (.int 0)) z0 px pm rq co sp aC aT t := ⟨((hz.upM (by decide)).upM (by decide)).upM (by decide), (by unfold zAg; subst hg1; simp [zup, n_px_pm, n_px_rq, n_px_co, n_px_sp, n_px_po, n_pm_px, n_pm_rq, n_pm_co, n_pm_sp, n_pm_po, n_rq_px, n_rq_pm, n_rq_co, n_rq_sp, n_rq_po, n_co_px, n_co_pm, n_co_rq, n_co_sp, n_co_po, n_sp_px, n_sp_pm, n_sp_rq, n_sp_co, n_sp_po, n_po_px, n_po_pm, n_po_rq, n_po_co, n_po_sp, a0, a1, a2, a3, a4, a5, a6, a7])⟩
  have hI : zI D tc (zA [] [] s.heap.size) s.heap [] L κ (zup (zup (zup g1 pm 12 (.int 0)) pm 14 (.int 0)) pm 16 (.int 0)) H locs := hI
  generalize (zup (zup (zup g1 pm 12 (.int 0)) pm 14 (.int 0)) pm 16 (.int 0)) = g3 at hI hJ
  refine lv_icmp_eq (tgt := 2252) hx hb dL_law_1845 (by decide) (fun _ => ?_) (fun hne => absurd (hr1.trans hr2.symm) hne)
  have hl := lv_sub hl [0, 1, 2, 3, 4, 5] (l' := [(0, .ref b), (1, .ref px), (2, .ref pm), (3, .ref po), (4, .ref pd), (5, .int (nI (4 * k)))]) rfl
  refine W.widen (k := 60 + 20 * (k + 1) + 37 * t) (n := 400 + 120 * (k + 1) + 162 * t) (by omega) (by omega) ?_
  refine W.base ?_
  exact hN s.drawn L κ g3 _ _ _ _ (Drawn.sameBut.refl _ _) hJ hko hkd hI hl

set_option maxHeartbeats 4000000 in
set_option maxRecDepth 100000 in
theorem k_age (l : Launch) (hnt : l.stackTraces = false) {p : Program} {e : Env} {s : State} {m : MethodId} {below : List Frame} {meth : Method} {c : Code} {H : Heap} {locs : List Loc} {Q : State → Prop} {D : va_G} {tc : Nat → ClassId} {z0 b N : Nat} {xs : Nat → Int32} {px pm po pd rq co sp aC aT t k : Nat} {L : List Nat} {κ : Nat → Nat} {g : Nat → Nat → Value} {ls : Array Slot} (C : lwC p s m meth c b N xs D tc z0) (hk : 4 * k + 4 ≤ N) (hN8 : N ≤ 2048) (hJ : zJ κ g z0 px pm rq co sp aC aT t) (h0 : (∀ j, g aC j = .null) ∧ ∀ j, g aT j = .null) (hko : κ po = 29) (hkd : κ pd = 30) (hI : zI D tc (zA [] [] s.heap.size) s.heap [] L κ g H locs) (hl : lv_has ls 9 [(0, .ref b), (1, .ref px), (2, .ref pm), (3, .ref po), (4, .ref pd), (5, .int (nI (4 * k)))]) (hN : lwN p l e s m below meth c b D tc z0 px pm po pd rq co sp aC aT k Q) : W p l e room_1 s m #[Value.ref b] below meth c H locs (60 + 20 * k + 37 * t) (400 + 120 * k + 162 * t) Q (F0 m 1850 ls []) := by
  obtain ⟨hx, hb, hml, hown, hts, hK, hE, hX, hbl⟩ := C
  have hbA : ¬ zA [] [] s.heap.size b := fun q => by rcases q with q | q | q; exact absurd q List.not_mem_nil; exact absurd q List.not_mem_nil; exact absurd hbl (Nat.not_lt.mpr q)
  have htb9 : t ≤ 9999 := hJ.1.2.2.1.2
  refine lv_aload_n hx hb dL_law_1850 rfl (lv_at hl 1 rfl) ?_
  refine lv_aload_n hx hb dL_law_1851 rfl (lv_at hl 0 rfl) ?_
  refine lv_iload hx hb dL_law_1852 (lv_at hl 5 rfl) ?_
  refine lv_iconst (v := 1) hx hb dL_law_1854 (by decide) ?_
  refine lv_iadd hx hb dL_law_1855 ?_
  rw [show nI (4 * k) + 1 = nI (4 * k + 1) from nI_add _ _]
  refine va_sld hx hb hX hbl hbA hI.2.1 (vp_in_nI (show 4 * k + 1 < N from by omega) (by omega)) dL_law_1856 ?_
  refine lv_aload_n hx hb dL_law_1857 rfl (lv_at hl 3 rfl) ?_
  obtain ⟨⟨⟨hkx, hkm, hkq, hkO, hkS, hkC, hkT⟩, ⟨hR, hO, hS9, hC, hT⟩, ⟨htM, htb⟩, lc, eC, nC, mC, cf, lt, eT, nT, mT, tf, hMo, hCo, hTh⟩, a0, a1, a2, a3, a4, a5, a6, a7⟩ := id hJ
  refine z_xi hI (vx_runSX (As := [.ref px, .int (xs (nI (4 * k + 1)).toNatClampNeg), .ref po]) (rest := []) ⟨hx, hb, hml, hown, hts⟩ (c_L_age l hnt D tc z0 _ κ g _ px hkx (xs (nI (4 * k + 1)).toNatClampNeg) po hko aC hC) (vx_cwSW 3 hts gL_law_L_age rfl rfl rfl (by decide +kernel) ⟨Nat.le_of_ble_eq_true rfl, Nat.le_of_ble_eq_true rfl⟩) (z_pre (Xc := []) hK hE hI [] rfl rfl) rfl rfl hl.1 rfl (lv_room (Nat.le_of_ble_eq_true rfl)) dL_law_1858 ⟨(show 60 + 20 * k + 37 * t + 1 ≤ 746514 from by omega), (show 400 + 120 * k + 162 * t + 6 ≤ 6862693 from by omega)⟩) (fun E ce q9 u H locs hw hI he1 he2 he3 => hw.elim) (fun v u H locs hw hI => ?_)
  have hn0 : nC = 0 := hCo.zero h0.1
  have hno : ∀ x, ¬ zHas g aC 6 x := fun x q => by obtain ⟨i9, hi9, -⟩ := (hCo.has hMo.bC (by decide)).mp q; omega
  rcases hw with ⟨rfl, r1, u1, v9, hp, hv9, hu⟩ | ⟨rfl, hp⟩
  · exact absurd hp.1 (hno _)
  · obtain ⟨⟨_, q1⟩, hp⟩ := hp
    cases hp
    refine lv_istore (lv' := [(6, .int 1), (0, .ref b), (1, .ref px), (2, .ref pm), (3, .ref po), (4, .ref pd), (5, .int (nI (4 * k)))]) hx hb dL_law_1861 hl (by decide) rfl (fun ls hl => ?_)
    refine lv_aload_n hx hb dL_law_1863 rfl (lv_at hl 3 rfl) ?_
    refine lv_aload_n hx hb dL_law_1864 rfl (lv_at hl 1 rfl) ?_
    refine lv_iload hx hb dL_law_1865 (lv_at hl 6 rfl) ?_
    refine lv_iconst (v := 1) hx hb dL_law_1867 (by decide) ?_
    refine lv_iadd hx hb dL_law_1868 ?_
    rw [show nI (4 * k) + 1 = nI (4 * k + 1) from nI_add _ _]
    refine va_sld hx hb hX hbl hbA hI.2.1 (vp_in_nI (show 4 * k + 1 < N from by omega) (by omega)) dL_law_1869 ?_
    refine z_ci hI (va_runV (As := [.int (xs (nI (4 * k + 1)).toNatClampNeg)]) (rest := []) ⟨hx, hb, hml, hown, hts⟩ (c_X11_age l D tc z0 _ κ g _ pm hkm (xs (nI (4 * k + 1)).toNatClampNeg) lc eC nC mC cf lt eT nT mT tf hMo) (cwV 1 hts gL_law_X11_age rfl rfl rfl (by decide +kernel) ⟨Nat.le_of_ble_eq_true rfl, Nat.le_of_ble_eq_true rfl⟩) (z_preV (Xc := []) hK hE hI [] rfl rfl (z_recv hK hI hkm rfl rfl)) rfl rfl hl.1 rfl (lv_room (Nat.le_of_ble_eq_true rfl)) dL_law_1870 ⟨(show 60 + 20 * k + 37 * t + 1 + 0 ≤ 746514 from by omega), (show 400 + 120 * k + 162 * t + 6 + 0 ≤ 6862693 from by omega)⟩) (fun w u H locs hw hI => ?_)
    obtain ⟨v8, hv8, rfl⟩ := hw
    obtain rfl : v8 = 1 := hv8 hn0
    have hJ : zJ κ (zup g pm 12 (.int 1)) z0 px pm rq co sp aC aT t := hJ.upM (by decide)
    have hI : zI D tc (zA [] [] s.heap.size) s.heap [] L κ (zup g pm 12 (.int 1)) H locs := hI
    have hcd : (zup g pm 12 (.int 1)) pm 12 = .int 1 := zup_self _ _ _ _
    generalize (zup g pm 12 (.int 1)) = g3 at hI hJ hcd
    refine lv_istore (lv' := [(7, .int w), (6, .int 1), (0, .ref b), (1, .ref px), (2, .ref pm), (3, .ref po), (4, .ref pd), (5, .int (nI (4 * k)))]) hx hb dL_law_1873 hl (by decide) rfl (fun ls hl => ?_)
    refine lv_aload_n hx hb dL_law_1875 rfl (lv_at hl 4 rfl) ?_
    refine z_ci hI (va_runV (As := []) (rest := []) ⟨hx, hb, hml, hown, hts⟩ (c_X11_thrown l D tc z0 _ κ g3 _ pm hkm) (cwV 0 hts gL_law_X11_thrown rfl rfl rfl (by decide +kernel) ⟨Nat.le_of_ble_eq_true rfl, Nat.le_of_ble_eq_true rfl⟩) (z_preV (Xc := []) hK hE hI [] rfl rfl (z_recv hK hI hkm rfl rfl)) rfl rfl hl.1 rfl (lv_room (Nat.le_of_ble_eq_true rfl)) dL_law_1876 ⟨(show 60 + 20 * k + 37 * t + 1 + 0 + 0 ≤ 746514 from by omega), (show 400 + 120 * k + 162 * t + 6 + 0 + 0 ≤ 6862693 from by omega)⟩) (fun w2 u H locs hw hI => ?_)
    obtain ⟨hw2, rfl⟩ := hw
    have hI : zI D tc (zA [] [] s.heap.size) s.heap [] L κ g3 H locs := hI
    obtain rfl : w2 = 1 := Value.int.inj (hw2.symm.trans hcd)
    refine lv_iload hx hb dL_law_1879 (lv_at hl 1 rfl) ?_
    refine lv_icmp_eq (tgt := 1886) hx hb dL_law_1881 (by decide) (fun _ => ?_) (fun hne => absurd rfl hne)
    refine lv_iload hx hb dL_law_1886 (lv_at hl 1 rfl) ?_
    refine lv_if_ne (tgt := 1903) hx hb dL_law_1888 (by decide) (fun _ => ?_) (fun h9 => absurd h9 (by decide))
    refine lv_goto (tgt := 2252) hx hb dL_law_1903 (by decide) ?_
    have hl := lv_sub hl [2, 3, 4, 5, 6, 7] (l' := [(0, .ref b), (1, .ref px), (2, .ref pm), (3, .ref po), (4, .ref pd), (5, .int (nI (4 * k)))]) rfl
    refine W.widen (k := 60 + 20 * (k + 1) + 37 * t) (n := 400 + 120 * (k + 1) + 162 * t) (by omega) (by omega) ?_
    refine W.base ?_
    exact hN s.drawn L κ g3 _ _ _ _ (Drawn.sameBut.refl _ _) hJ hko hkd hI hl

set_option maxHeartbeats 4000000 in
set_option maxRecDepth 100000 in
theorem k_isRetired (l : Launch) (hnt : l.stackTraces = false) {p : Program} {e : Env} {s : State} {m : MethodId} {below : List Frame} {meth : Method} {c : Code} {H : Heap} {locs : List Loc} {Q : State → Prop} {D : va_G} {tc : Nat → ClassId} {z0 b N : Nat} {xs : Nat → Int32} {px pm po pd rq co sp aC aT t k : Nat} {L : List Nat} {κ : Nat → Nat} {g : Nat → Nat → Value} {ls : Array Slot} (C : lwC p s m meth c b N xs D tc z0) (hk : 4 * k + 4 ≤ N) (hN8 : N ≤ 2048) (hJ : zJ κ g z0 px pm rq co sp aC aT t) (h0 : (∀ j, g aC j = .null) ∧ ∀ j, g aT j = .null) (hko : κ po = 29) (hkd : κ pd = 30) (hI : zI D tc (zA [] [] s.heap.size) s.heap [] L κ g H locs) (hl : lv_has ls 9 [(0, .ref b), (1, .ref px), (2, .ref pm), (3, .ref po), (4, .ref pd), (5, .int (nI (4 * k)))]) (hN : lwN p l e s m below meth c b D tc z0 px pm po pd rq co sp aC aT k Q) : W p l e room_1 s m #[Value.ref b] below meth c H locs (60 + 20 * k + 37 * t) (400 + 120 * k + 162 * t) Q (F0 m 1906 ls []) := by
  obtain ⟨hx, hb, hml, hown, hts, hK, hE, hX, hbl⟩ := C
  have hbA : ¬ zA [] [] s.heap.size b := fun q => by rcases q with q | q | q; exact absurd q List.not_mem_nil; exact absurd q List.not_mem_nil; exact absurd hbl (Nat.not_lt.mpr q)
  have htb9 : t ≤ 9999 := hJ.1.2.2.1.2
  refine lv_aload_n hx hb dL_law_1906 rfl (lv_at hl 1 rfl) ?_
  refine lv_aload_n hx hb dL_law_1907 rfl (lv_at hl 0 rfl) ?_
  refine lv_iload hx hb dL_law_1908 (lv_at hl 5 rfl) ?_
  refine lv_iconst (v := 1) hx hb dL_law_1910 (by decide) ?_
  refine lv_iadd hx hb dL_law_1911 ?_
  rw [show nI (4 * k) + 1 = nI (4 * k + 1) from nI_add _ _]
  refine va_sld hx hb hX hbl hbA hI.2.1 (vp_in_nI (show 4 * k + 1 < N from by omega) (by omega)) dL_law_1912 ?_
  refine lv_aload_n hx hb dL_law_1913 rfl (lv_at hl 3 rfl) ?_
  obtain ⟨⟨⟨hkx, hkm, hkq, hkO, hkS, hkC, hkT⟩, ⟨hR, hO, hS9, hC, hT⟩, ⟨htM, htb⟩, lc, eC, nC, mC, cf, lt, eT, nT, mT, tf, hMo, hCo, hTh⟩, a0, a1, a2, a3, a4, a5, a6, a7⟩ := id hJ
  refine z_xi hI (vx_runSX (As := [.ref px, .int (xs (nI (4 * k + 1)).toNatClampNeg), .ref po]) (rest := []) ⟨hx, hb, hml, hown, hts⟩ (c_L_isRetired l hnt D tc z0 _ κ g _ px hkx (xs (nI (4 * k + 1)).toNatClampNeg) po hko aC hC) (vx_cwSW 3 hts gL_law_L_isRetired rfl rfl rfl (by decide +kernel) ⟨Nat.le_of_ble_eq_true rfl, Nat.le_of_ble_eq_true rfl⟩) (z_pre (Xc := []) hK hE hI [] rfl rfl) rfl rfl hl.1 rfl (lv_room (Nat.le_of_ble_eq_true rfl)) dL_law_1914 ⟨(show 60 + 20 * k + 37 * t + 1 ≤ 746514 from by omega), (show 400 + 120 * k + 162 * t + 6 ≤ 6862693 from by omega)⟩) (fun E ce q9 u H locs hw hI he1 he2 he3 => hw.elim) (fun v u H locs hw hI => ?_)
  have hn0 : nC = 0 := hCo.zero h0.1
  have hno : ∀ x, ¬ zHas g aC 6 x := fun x q => by obtain ⟨i9, hi9, -⟩ := (hCo.has hMo.bC (by decide)).mp q; omega
  rcases hw with ⟨rfl, r1, u1, v9, hp, hv9, hu⟩ | ⟨rfl, hp⟩
  · exact absurd hp.1 (hno _)
  · obtain ⟨⟨_, q1⟩, hp⟩ := hp
    cases hp
    refine lv_istore (lv' := [(6, .int 1), (0, .ref b), (1, .ref px), (2, .ref pm), (3, .ref po), (4, .ref pd), (5, .int (nI (4 * k)))]) hx hb dL_law_1917 hl (by decide) rfl (fun ls hl => ?_)
    refine lv_aload_n hx hb dL_law_1919 rfl (lv_at hl 3 rfl) ?_
    refine lv_aload_n hx hb dL_law_1920 rfl (lv_at hl 1 rfl) ?_
    refine lv_iload hx hb dL_law_1921 (lv_at hl 6 rfl) ?_
    refine lv_iconst (v := 1) hx hb dL_law_1923 (by decide) ?_
    refine lv_iadd hx hb dL_law_1924 ?_
    rw [show nI (4 * k) + 1 = nI (4 * k + 1) from nI_add _ _]
    refine va_sld hx hb hX hbl hbA hI.2.1 (vp_in_nI (show 4 * k + 1 < N from by omega) (by omega)) dL_law_1925 ?_
    refine z_ci hI (va_runV (As := [.int (xs (nI (4 * k + 1)).toNatClampNeg)]) (rest := []) ⟨hx, hb, hml, hown, hts⟩ (c_X11_isRetired l D tc z0 _ κ g _ pm hkm (xs (nI (4 * k + 1)).toNatClampNeg) lc eC nC mC cf lt eT nT mT tf hMo) (cwV 1 hts gL_law_X11_isRetired rfl rfl rfl (by decide +kernel) ⟨Nat.le_of_ble_eq_true rfl, Nat.le_of_ble_eq_true rfl⟩) (z_preV (Xc := []) hK hE hI [] rfl rfl (z_recv hK hI hkm rfl rfl)) rfl rfl hl.1 rfl (lv_room (Nat.le_of_ble_eq_true rfl)) dL_law_1926 ⟨(show 60 + 20 * k + 37 * t + 1 + 0 ≤ 746514 from by omega), (show 400 + 120 * k + 162 * t + 6 + 0 ≤ 6862693 from by omega)⟩) (fun w u H locs hw hI => ?_)
    obtain ⟨v8, hv8, rfl⟩ := hw
    obtain rfl : v8 = 1 := hv8 hn0
    have hJ : zJ κ (zup g pm 12 (.int 1)) z0 px pm rq co sp aC aT t := hJ.upM (by decide)
    have hI : zI D tc (zA [] [] s.heap.size) s.heap [] L κ (zup g pm 12 (.int 1)) H locs := hI
    have hcd : (zup g pm 12 (.int 1)) pm 12 = .int 1 := zup_self _ _ _ _
    generalize (zup g pm 12 (.int 1)) = g3 at hI hJ hcd
    refine lv_istore (lv' := [(7, .int w), (6, .int 1), (0, .ref b), (1, .ref px), (2, .ref pm), (3, .ref po), (4, .ref pd), (5, .int (nI (4 * k)))]) hx hb dL_law_1929 hl (by decide) rfl (fun ls hl => ?_)
    refine lv_aload_n hx hb dL_law_1931 rfl (lv_at hl 4 rfl) ?_
    refine z_ci hI (va_runV (As := []) (rest := []) ⟨hx, hb, hml, hown, hts⟩ (c_X11_thrown l D tc z0 _ κ g3 _ pm hkm) (cwV 0 hts gL_law_X11_thrown rfl rfl rfl (by decide +kernel) ⟨Nat.le_of_ble_eq_true rfl, Nat.le_of_ble_eq_true rfl⟩) (z_preV (Xc := []) hK hE hI [] rfl rfl (z_recv hK hI hkm rfl rfl)) rfl rfl hl.1 rfl (lv_room (Nat.le_of_ble_eq_true rfl)) dL_law_1932 ⟨(show 60 + 20 * k + 37 * t + 1 + 0 + 0 ≤ 746514 from by omega), (show 400 + 120 * k + 162 * t + 6 + 0 + 0 ≤ 6862693 from by omega)⟩) (fun w2 u H locs hw hI => ?_)
    obtain ⟨hw2, rfl⟩ := hw
    have hI : zI D tc (zA [] [] s.heap.size) s.heap [] L κ g3 H locs := hI
    obtain rfl : w2 = 1 := Value.int.inj (hw2.symm.trans hcd)
    refine lv_iload hx hb dL_law_1935 (lv_at hl 1 rfl) ?_
    refine lv_icmp_eq (tgt := 1942) hx hb dL_law_1937 (by decide) (fun _ => ?_) (fun hne => absurd rfl hne)
    refine lv_iload hx hb dL_law_1942 (lv_at hl 1 rfl) ?_
    refine lv_if_ne (tgt := 1966) hx hb dL_law_1944 (by decide) (fun _ => ?_) (fun h9 => absurd h9 (by decide))
    refine lv_goto (tgt := 2252) hx hb dL_law_1966 (by decide) ?_
    have hl := lv_sub hl [2, 3, 4, 5, 6, 7] (l' := [(0, .ref b), (1, .ref px), (2, .ref pm), (3, .ref po), (4, .ref pd), (5, .int (nI (4 * k)))]) rfl
    refine W.widen (k := 60 + 20 * (k + 1) + 37 * t) (n := 400 + 120 * (k + 1) + 162 * t) (by omega) (by omega) ?_
    refine W.base ?_
    exact hN s.drawn L κ g3 _ _ _ _ (Drawn.sameBut.refl _ _) hJ hko hkd hI hl

set_option maxHeartbeats 4000000 in
set_option maxRecDepth 100000 in
theorem k_wear (l : Launch) (hnt : l.stackTraces = false) {p : Program} {e : Env} {s : State} {m : MethodId} {below : List Frame} {meth : Method} {c : Code} {H : Heap} {locs : List Loc} {Q : State → Prop} {D : va_G} {tc : Nat → ClassId} {z0 b N : Nat} {xs : Nat → Int32} {px pm po pd rq co sp aC aT t k : Nat} {L : List Nat} {κ : Nat → Nat} {g : Nat → Nat → Value} {ls : Array Slot} (C : lwC p s m meth c b N xs D tc z0) (hk : 4 * k + 4 ≤ N) (hN8 : N ≤ 2048) (hJ : zJ κ g z0 px pm rq co sp aC aT t) (h0 : (∀ j, g aC j = .null) ∧ ∀ j, g aT j = .null) (hko : κ po = 29) (hkd : κ pd = 30) (hI : zI D tc (zA [] [] s.heap.size) s.heap [] L κ g H locs) (hl : lv_has ls 9 [(0, .ref b), (1, .ref px), (2, .ref pm), (3, .ref po), (4, .ref pd), (5, .int (nI (4 * k)))]) (hN : lwN p l e s m below meth c b D tc z0 px pm po pd rq co sp aC aT k Q) : W p l e room_1 s m #[Value.ref b] below meth c H locs (60 + 20 * k + 37 * t) (400 + 120 * k + 162 * t) Q (F0 m 1969 ls []) := by
  obtain ⟨hx, hb, hml, hown, hts, hK, hE, hX, hbl⟩ := C
  have hbA : ¬ zA [] [] s.heap.size b := fun q => by rcases q with q | q | q; exact absurd q List.not_mem_nil; exact absurd q List.not_mem_nil; exact absurd hbl (Nat.not_lt.mpr q)
  have htb9 : t ≤ 9999 := hJ.1.2.2.1.2
  refine lv_aload_n hx hb dL_law_1969 rfl (lv_at hl 1 rfl) ?_
  refine lv_aload_n hx hb dL_law_1970 rfl (lv_at hl 0 rfl) ?_
  refine lv_iload hx hb dL_law_1971 (lv_at hl 5 rfl) ?_
  refine lv_iconst (v := 1) hx hb dL_law_1973 (by decide) ?_
  refine lv_iadd hx hb dL_law_1974 ?_
  rw [show nI (4 * k) + 1 = nI (4 * k + 1) from nI_add _ _]
  refine va_sld hx hb hX hbl hbA hI.2.1 (vp_in_nI (show 4 * k + 1 < N from by omega) (by omega)) dL_law_1975 ?_
  refine lv_aload_n hx hb dL_law_1976 rfl (lv_at hl 0 rfl) ?_
  refine lv_iload hx hb dL_law_1977 (lv_at hl 5 rfl) ?_
  refine lv_iconst (v := 2) hx hb dL_law_1979 (by decide) ?_
  refine lv_iadd hx hb dL_law_1980 ?_
  rw [show nI (4 * k) + 2 = nI (4 * k + 2) from nI_add _ _]
  refine va_sld hx hb hX hbl hbA hI.2.1 (vp_in_nI (show 4 * k + 2 < N from by omega) (by omega)) dL_law_1981 ?_
  refine lv_aload_n hx hb dL_law_1982 rfl (lv_at hl 3 rfl) ?_
  obtain ⟨⟨⟨hkx, hkm, hkq, hkO, hkS, hkC, hkT⟩, ⟨hR, hO, hS9, hC, hT⟩, ⟨htM, htb⟩, lc, eC, nC, mC, cf, lt, eT, nT, mT, tf, hMo, hCo, hTh⟩, a0, a1, a2, a3, a4, a5, a6, a7⟩ := id hJ
  refine z_xi hI (vx_runSX (As := [.ref px, .int (xs (nI (4 * k + 1)).toNatClampNeg), .int (xs (nI (4 * k + 2)).toNatClampNeg), .ref po]) (rest := []) ⟨hx, hb, hml, hown, hts⟩ (c_L_wear l hnt D tc z0 _ κ g _ px hkx (xs (nI (4 * k + 1)).toNatClampNeg) (xs (nI (4 * k + 2)).toNatClampNeg) po hko aC hC) (vx_cwSW 4 hts gL_law_L_wear rfl rfl rfl (by decide +kernel) ⟨Nat.le_of_ble_eq_true rfl, Nat.le_of_ble_eq_true rfl⟩) (z_pre (Xc := []) hK hE hI [] rfl rfl) rfl rfl hl.1 rfl (lv_room (Nat.le_of_ble_eq_true rfl)) dL_law_1983 ⟨(show 60 + 20 * k + 37 * t + 2 ≤ 746514 from by omega), (show 400 + 120 * k + 162 * t + 12 ≤ 6862693 from by omega)⟩) (fun E ce q9 u H locs hw hI he1 he2 he3 => hw.elim) (fun v u H locs hw hI => ?_)
  have hn0 : nC = 0 := hCo.zero h0.1
  have hno : ∀ x, ¬ zHas g aC 6 x := fun x q => by obtain ⟨i9, hi9, -⟩ := (hCo.has hMo.bC (by decide)).mp q; omega
  rcases hw with ⟨rfl, r1, u1, v9, hp, hv9, hu⟩ | ⟨rfl, hp⟩ | ⟨rfl, hp⟩ | ⟨rfl, hp⟩
  · exact absurd hp.1 (hno _)
  · rcases hp with ⟨⟨_, q1⟩ | ⟨q0, _⟩ | ⟨q0, _⟩, hp⟩
    · cases hp
      refine lv_istore (lv' := [(6, .int 1), (0, .ref b), (1, .ref px), (2, .ref pm), (3, .ref po), (4, .ref pd), (5, .int (nI (4 * k)))]) hx hb dL_law_1986 hl (by decide) rfl (fun ls hl => ?_)
      refine lv_aload_n hx hb dL_law_1988 rfl (lv_at hl 3 rfl) ?_
      refine lv_aload_n hx hb dL_law_1989 rfl (lv_at hl 1 rfl) ?_
      refine lv_iload hx hb dL_law_1990 (lv_at hl 6 rfl) ?_
      refine lv_iconst (v := 1) hx hb dL_law_1992 (by decide) ?_
      refine lv_iadd hx hb dL_law_1993 ?_
      rw [show nI (4 * k) + 1 = nI (4 * k + 1) from nI_add _ _]
      refine va_sld hx hb hX hbl hbA hI.2.1 (vp_in_nI (show 4 * k + 1 < N from by omega) (by omega)) dL_law_1994 ?_
      refine lv_aload_n hx hb dL_law_1995 rfl (lv_at hl 1 rfl) ?_
      refine lv_iload hx hb dL_law_1996 (lv_at hl 6 rfl) ?_
      refine lv_iconst (v := 2) hx hb dL_law_1998 (by decide) ?_
      refine lv_iadd hx hb dL_law_1999 ?_
      rw [show nI (4 * k) + 2 = nI (4 * k + 2) from nI_add _ _]
      refine va_sld hx hb hX hbl hbA hI.2.1 (vp_in_nI (show 4 * k + 2 < N from by omega) (by omega)) dL_law_2000 ?_
      refine z_ci hI (va_runV (As := [.int (xs (nI (4 * k + 1)).toNatClampNeg), .int (xs (nI (4 * k + 2)).toNatClampNeg)]) (rest := []) ⟨hx, hb, hml, hown, hts⟩ (c_X11_wear l D tc z0 _ κ g _ pm hkm (xs (nI (4 * k + 1)).toNatClampNeg) (xs (nI (4 * k + 2)).toNatClampNeg) lc eC nC mC cf lt eT nT mT tf hMo) (cwV 2 hts gL_law_X11_wear rfl rfl rfl (by decide +kernel) ⟨Nat.le_of_ble_eq_true rfl, Nat.le_of_ble_eq_true rfl⟩) (z_preV (Xc := []) hK hE hI [] rfl rfl (z_recv hK hI hkm rfl rfl)) rfl rfl hl.1 rfl (lv_room (Nat.le_of_ble_eq_true rfl)) dL_law_2001 ⟨(show 60 + 20 * k + 37 * t + 2 + 0 ≤ 746514 from by omega), (show 400 + 120 * k + 162 * t + 12 + 0 ≤ 6862693 from by omega)⟩) (fun w u H locs hw hI => ?_)
      obtain ⟨v8, hv8, rfl⟩ := hw
      obtain rfl : v8 = 1 := hv8 hn0
      have hJ : zJ κ (zup g pm 12 (.int 1)) z0 px pm rq co sp aC aT t := hJ.upM (by decide)
      have hI : zI D tc (zA [] [] s.heap.size) s.heap [] L κ (zup g pm 12 (.int 1)) H locs := hI
      have hcd : (zup g pm 12 (.int 1)) pm 12 = .int 1 := zup_self _ _ _ _
      generalize (zup g pm 12 (.int 1)) = g3 at hI hJ hcd
      refine lv_istore (lv' := [(7, .int w), (6, .int 1), (0, .ref b), (1, .ref px), (2, .ref pm), (3, .ref po), (4, .ref pd), (5, .int (nI (4 * k)))]) hx hb dL_law_2004 hl (by decide) rfl (fun ls hl => ?_)
      refine lv_aload_n hx hb dL_law_2006 rfl (lv_at hl 4 rfl) ?_
      refine z_ci hI (va_runV (As := []) (rest := []) ⟨hx, hb, hml, hown, hts⟩ (c_X11_thrown l D tc z0 _ κ g3 _ pm hkm) (cwV 0 hts gL_law_X11_thrown rfl rfl rfl (by decide +kernel) ⟨Nat.le_of_ble_eq_true rfl, Nat.le_of_ble_eq_true rfl⟩) (z_preV (Xc := []) hK hE hI [] rfl rfl (z_recv hK hI hkm rfl rfl)) rfl rfl hl.1 rfl (lv_room (Nat.le_of_ble_eq_true rfl)) dL_law_2007 ⟨(show 60 + 20 * k + 37 * t + 2 + 0 + 0 ≤ 746514 from by omega), (show 400 + 120 * k + 162 * t + 12 + 0 + 0 ≤ 6862693 from by omega)⟩) (fun w2 u H locs hw hI => ?_)
      obtain ⟨hw2, rfl⟩ := hw
      have hI : zI D tc (zA [] [] s.heap.size) s.heap [] L κ g3 H locs := hI
      obtain rfl : w2 = 1 := Value.int.inj (hw2.symm.trans hcd)
      refine lv_iload hx hb dL_law_2010 (lv_at hl 1 rfl) ?_
      refine lv_icmp_eq (tgt := 2017) hx hb dL_law_2012 (by decide) (fun _ => ?_) (fun hne => absurd rfl hne)
      refine lv_iload hx hb dL_law_2017 (lv_at hl 1 rfl) ?_
      refine lv_if_ne (tgt := 2034) hx hb dL_law_2019 (by decide) (fun _ => ?_) (fun h9 => absurd h9 (by decide))
      refine lv_goto (tgt := 2252) hx hb dL_law_2034 (by decide) ?_
      have hl := lv_sub hl [2, 3, 4, 5, 6, 7] (l' := [(0, .ref b), (1, .ref px), (2, .ref pm), (3, .ref po), (4, .ref pd), (5, .int (nI (4 * k)))]) rfl
      refine W.widen (k := 60 + 20 * (k + 1) + 37 * t) (n := 400 + 120 * (k + 1) + 162 * t) (by omega) (by omega) ?_
      refine W.base ?_
      exact hN s.drawn L κ g3 _ _ _ _ (Drawn.sameBut.refl _ _) hJ hko hkd hI hl
    · exact absurd q0 (by decide)
    · exact absurd q0 (by decide)
  · rcases hp with ⟨⟨q0, _⟩ | ⟨_, q1⟩ | ⟨q0, _⟩, hp⟩
    · exact absurd q0 (by decide)
    · exact absurd q1 (hno _)
    · exact absurd q0 (by decide)
  · rcases hp with ⟨⟨q0, _⟩ | ⟨q0, _⟩ | ⟨_, q1⟩, hp⟩
    · exact absurd q0 (by decide)
    · exact absurd q0 (by decide)
    · exact absurd q1 (hno _)

set_option maxHeartbeats 4000000 in
set_option maxRecDepth 100000 in
theorem k_account (l : Launch) (hnt : l.stackTraces = false) {p : Program} {e : Env} {s : State} {m : MethodId} {below : List Frame} {meth : Method} {c : Code} {H : Heap} {locs : List Loc} {Q : State → Prop} {D : va_G} {tc : Nat → ClassId} {z0 b N : Nat} {xs : Nat → Int32} {px pm po pd rq co sp aC aT t k : Nat} {L : List Nat} {κ : Nat → Nat} {g : Nat → Nat → Value} {ls : Array Slot} (C : lwC p s m meth c b N xs D tc z0) (hk : 4 * k + 4 ≤ N) (hN8 : N ≤ 2048) (hJ : zJ κ g z0 px pm rq co sp aC aT t) (h0 : (∀ j, g aC j = .null) ∧ ∀ j, g aT j = .null) (hbad : ¬ KS9 (((xs (nI (4 * k + 1)).toNatClampNeg).toUInt32 % 65536).toInt32)) (hko : κ po = 29) (hkd : κ pd = 30) (hI : zI D tc (zA [] [] s.heap.size) s.heap [] L κ g H locs) (hl : lv_has ls 9 [(0, .ref b), (1, .ref px), (2, .ref pm), (3, .ref po), (4, .ref pd), (5, .int (nI (4 * k)))]) (hN : lwN p l e s m below meth c b D tc z0 px pm po pd rq co sp aC aT k Q) : W p l e room_1 s m #[Value.ref b] below meth c H locs (60 + 20 * k + 37 * t) (400 + 120 * k + 162 * t) Q (F0 m 2037 ls []) := by
  obtain ⟨hx, hb, hml, hown, hts, hK, hE, hX, hbl⟩ := C
  have hbA : ¬ zA [] [] s.heap.size b := fun q => by rcases q with q | q | q; exact absurd q List.not_mem_nil; exact absurd q List.not_mem_nil; exact absurd hbl (Nat.not_lt.mpr q)
  have htb9 : t ≤ 9999 := hJ.1.2.2.1.2
  refine lv_aload_n hx hb dL_law_2037 rfl (lv_at hl 1 rfl) ?_
  refine lv_aload_n hx hb dL_law_2038 rfl (lv_at hl 0 rfl) ?_
  refine lv_iload hx hb dL_law_2039 (lv_at hl 5 rfl) ?_
  refine lv_iconst (v := 1) hx hb dL_law_2041 (by decide) ?_
  refine lv_iadd hx hb dL_law_2042 ?_
  rw [show nI (4 * k) + 1 = nI (4 * k + 1) from nI_add _ _]
  refine va_sld hx hb hX hbl hbA hI.2.1 (vp_in_nI (show 4 * k + 1 < N from by omega) (by omega)) dL_law_2043 ?_
  refine lv_i2c hx hb dL_law_2044 rfl ?_
  refine lv_aload_n hx hb dL_law_2045 rfl (lv_at hl 3 rfl) ?_
  obtain ⟨⟨⟨hkx, hkm, hkq, hkO, hkS, hkC, hkT⟩, ⟨hR, hO, hS9, hC, hT⟩, ⟨htM, htb⟩, lc, eC, nC, mC, cf, lt, eT, nT, mT, tf, hMo, hCo, hTh⟩, a0, a1, a2, a3, a4, a5, a6, a7⟩ := id hJ
  refine z_xi hI (vx_runSX (As := [.ref px, .int (((xs (nI (4 * k + 1)).toNatClampNeg).toUInt32 % 65536).toInt32), .ref po]) (rest := []) ⟨hx, hb, hml, hown, hts⟩ (c_L_account l hnt D tc z0 _ κ g _ px hkx (((xs (nI (4 * k + 1)).toNatClampNeg).toUInt32 % 65536).toInt32) po hko ) (vx_cwSW 3 hts gL_law_L_account rfl rfl rfl (by decide +kernel) ⟨Nat.le_of_ble_eq_true rfl, Nat.le_of_ble_eq_true rfl⟩) (z_pre (Xc := []) hK hE hI [] rfl rfl) rfl rfl hl.1 rfl (lv_room (Nat.le_of_ble_eq_true rfl)) dL_law_2046 ⟨(show 60 + 20 * k + 37 * t + 1 ≤ 746514 from by omega), (show 400 + 120 * k + 162 * t + 6 ≤ 6862693 from by omega)⟩) (fun E ce q9 u H locs hw hI he1 he2 he3 => hw.elim) (fun v u H locs hw hI => ?_)
  rcases hw with ⟨rfl, r1, u1, v9, hp, hv9, hu⟩ | ⟨rfl, hp⟩
  · exact absurd hp.1 hbad
  · obtain ⟨⟨_, q1⟩, hp⟩ := hp
    cases hp
    refine lv_istore (lv' := [(6, .int 1), (0, .ref b), (1, .ref px), (2, .ref pm), (3, .ref po), (4, .ref pd), (5, .int (nI (4 * k)))]) hx hb dL_law_2049 hl (by decide) rfl (fun ls hl => ?_)
    refine lv_aload_n hx hb dL_law_2051 rfl (lv_at hl 3 rfl) ?_
    refine lv_aload_n hx hb dL_law_2052 rfl (lv_at hl 1 rfl) ?_
    refine lv_iload hx hb dL_law_2053 (lv_at hl 6 rfl) ?_
    refine lv_iconst (v := 1) hx hb dL_law_2055 (by decide) ?_
    refine lv_iadd hx hb dL_law_2056 ?_
    rw [show nI (4 * k) + 1 = nI (4 * k + 1) from nI_add _ _]
    refine va_sld hx hb hX hbl hbA hI.2.1 (vp_in_nI (show 4 * k + 1 < N from by omega) (by omega)) dL_law_2057 ?_
    refine lv_i2c hx hb dL_law_2058 rfl ?_
    refine z_cl hI (va_runV (As := [.int (((xs (nI (4 * k + 1)).toNatClampNeg).toUInt32 % 65536).toInt32)]) (rest := []) ⟨hx, hb, hml, hown, hts⟩ (c_X11_account l D tc z0 _ κ g _ pm hkm (((xs (nI (4 * k + 1)).toNatClampNeg).toUInt32 % 65536).toInt32) ) (cwV 1 hts gL_law_X11_account rfl rfl rfl (by decide +kernel) ⟨Nat.le_of_ble_eq_true rfl, Nat.le_of_ble_eq_true rfl⟩) (z_preV (Xc := []) hK hE hI [] rfl rfl (z_recv hK hI hkm rfl rfl)) rfl rfl hl.1 rfl (lv_room (Nat.le_of_ble_eq_true rfl)) dL_law_2059 ⟨(show 60 + 20 * k + 37 * t + 1 + 1 ≤ 746514 from by omega), (show 400 + 120 * k + 162 * t + 6 + 6 ≤ 6862693 from by omega)⟩) (fun w u H locs hw hI => ?_)
    obtain ⟨v8, hv8, rfl⟩ := hw
    obtain rfl : v8 = 1 := hv8 (fun j9 hj9 e9 => hbad (z_ks hj9 e9))
    have hJ : zJ κ (zup g pm 12 (.int 1)) z0 px pm rq co sp aC aT t := hJ.upM (by decide)
    have hI : zI D tc (zA [] [] s.heap.size) s.heap [] L κ (zup g pm 12 (.int 1)) H locs := hI
    have hcd : (zup g pm 12 (.int 1)) pm 12 = .int 1 := zup_self _ _ _ _
    generalize (zup g pm 12 (.int 1)) = g3 at hI hJ hcd
    refine lv_lstore (lv' := [(7, .long w), (6, .int 1), (0, .ref b), (1, .ref px), (2, .ref pm), (3, .ref po), (4, .ref pd), (5, .int (nI (4 * k)))]) hx hb dL_law_2062 hl (by decide) rfl (fun ls hl => ?_)
    refine lv_aload_n hx hb dL_law_2064 rfl (lv_at hl 4 rfl) ?_
    refine z_ci hI (va_runV (As := []) (rest := []) ⟨hx, hb, hml, hown, hts⟩ (c_X11_thrown l D tc z0 _ κ g3 _ pm hkm) (cwV 0 hts gL_law_X11_thrown rfl rfl rfl (by decide +kernel) ⟨Nat.le_of_ble_eq_true rfl, Nat.le_of_ble_eq_true rfl⟩) (z_preV (Xc := []) hK hE hI [] rfl rfl (z_recv hK hI hkm rfl rfl)) rfl rfl hl.1 rfl (lv_room (Nat.le_of_ble_eq_true rfl)) dL_law_2065 ⟨(show 60 + 20 * k + 37 * t + 1 + 1 + 0 ≤ 746514 from by omega), (show 400 + 120 * k + 162 * t + 6 + 6 + 0 ≤ 6862693 from by omega)⟩) (fun w2 u H locs hw hI => ?_)
    obtain ⟨hw2, rfl⟩ := hw
    have hI : zI D tc (zA [] [] s.heap.size) s.heap [] L κ g3 H locs := hI
    obtain rfl : w2 = 1 := Value.int.inj (hw2.symm.trans hcd)
    refine lv_iload hx hb dL_law_2068 (lv_at hl 1 rfl) ?_
    refine lv_icmp_eq (tgt := 2075) hx hb dL_law_2070 (by decide) (fun _ => ?_) (fun hne => absurd rfl hne)
    refine lv_iload hx hb dL_law_2075 (lv_at hl 1 rfl) ?_
    refine lv_if_ne (tgt := 2091) hx hb dL_law_2077 (by decide) (fun _ => ?_) (fun h9 => absurd h9 (by decide))
    refine lv_goto (tgt := 2252) hx hb dL_law_2091 (by decide) ?_
    have hl := lv_sub hl [2, 3, 4, 5, 6, 7] (l' := [(0, .ref b), (1, .ref px), (2, .ref pm), (3, .ref po), (4, .ref pd), (5, .int (nI (4 * k)))]) rfl
    refine W.widen (k := 60 + 20 * (k + 1) + 37 * t) (n := 400 + 120 * (k + 1) + 162 * t) (by omega) (by omega) ?_
    refine W.base ?_
    exact hN s.drawn L κ g3 _ _ _ _ (Drawn.sameBut.refl _ _) hJ hko hkd hI hl
