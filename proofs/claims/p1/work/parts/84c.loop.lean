theorem lw_lt {N k : Nat} (hN : N ≤ 2048) (hk : k ≤ 512) (h : ¬ nI N - 4 < nI (4 * k)) : 4 * k + 4 ≤ N := by
  by_cases h4 : 4 ≤ N
  · have e1 : nI N - 4 = nI (N - 4) := by
      have e2 : nI (N - 4) + 4 = nI N := (nI_add (N - 4) 4).trans (by rw [show N - 4 + 4 = N by omega])
      rw [← e2, Int32.add_sub_cancel]
    rw [e1] at h
    have e3 : ¬ N - 4 < 4 * k := fun q => h (nI_lt q (by omega))
    omega
  · exfalso
    refine h (Int32.lt_of_lt_of_le (b := 0) ?_ (nI_pos' (by omega)))
    rcases (show N = 0 ∨ N = 1 ∨ N = 2 ∨ N = 3 by omega) with rfl | rfl | rfl | rfl <;> decide
set_option maxHeartbeats 1000000 in
/-- behind the one call the loop ends -/
theorem lw_exit1 {l : Launch} {p : Program} {e : Env} {s : State} {m : MethodId} {below : List Frame} {meth : Method} {c : Code} {Q : State → Prop} {D : va_G} {tc : Nat → ClassId} {z0 b N : Nat} {xs : Nat → Int32} {px pm po pd : Nat} (C : lwC p s m meth c b N xs D tc z0) (hN8 : N ≤ 4) (hend : ∀ (d : Drawn) (H : Heap) (locs : List Loc) (ls : Array Slot) (k n : Nat), s.drawn.sameBut d lw_cs → va_S (zA [] [] s.heap.size) s.heap H locs → k ≤ 746514 → n ≤ 6862693 → W p l e room_1 (s.setDrawn d) m #[Value.ref b] below meth c H locs k n Q (F0 m 2258 ls [])) : lwN0 p l e s m below meth c b D tc px pm po pd Q := by
  intro d L κ g H locs ls hd hI hl
  obtain ⟨hx, hb, hml, hown, hts, hK, hE, hX, hbl⟩ := C.dr d
  have hbA : ¬ zA [] [] s.heap.size b := fun q => by rcases q with q | q | q; exact absurd q List.not_mem_nil; exact absurd q List.not_mem_nil; exact absurd hbl (Nat.not_lt.mpr q)
  refine lv_iinc (v := nI (4 * 1)) (lv' := [(5, .int (nI (4 * 1))), (0, .ref b), (1, .ref px), (2, .ref pm), (3, .ref po), (4, .ref pd)]) hx hb dL_law_2252 hl (k := 5) rfl ((nI_add (4 * 0) 4).trans (by rw [show 4 * 0 + 4 = 4 * 1 by omega])) (by decide) rfl (fun ls hl => ?_)
  refine lv_goto (tgt := 28) hx hb dL_law_2255 (by decide) ?_
  refine lv_iload hx hb dL_law_28 (lv_at hl 0 rfl) ?_
  refine lv_aload_n hx hb dL_law_30 rfl (lv_at hl 1 rfl) ?_
  refine va_slen hx hb hX hbl hbA hI.2.1 dL_law_31 ?_
  refine lv_iconst (v := 4) hx hb dL_law_32 (by decide) ?_
  refine lv_isub hx hb dL_law_33 ?_
  refine lv_icmp_gt (tgt := 2258) hx hb dL_law_34 (by decide) (fun _ => hend d _ _ _ _ _ hd hI.2.1 (Nat.le_refl _) (Nat.le_refl _)) (fun c9 => ?_)
  have := lw_lt (by omega) (by omega) c9
  omega

set_option maxHeartbeats 4000000 in
set_option maxRecDepth 100000 in
/-- the one pass of the loop: its switch -/
theorem lw_body1 (l : Launch) (hnt : l.stackTraces = false) {H : Heap} {locs : List Loc} {p : Program} {e : Env} {s : State} {m : MethodId} {below : List Frame} {meth : Method} {c : Code} {Q : State → Prop} {D : va_G} {tc : Nat → ClassId} {z0 b N : Nat} {xs : Nat → Int32} {po pd px yr yC yT yk ys yb yq yA yP yh yS yd y0 yha y1 yda y2 yAa yPa ySa pm lc lt pv pg : Nat} {L : List Nat} {κ : Nat → Nat} {g : Nat → Nat → Value} {ls : Array Slot} (C : lwC p s m meth c b N xs D tc z0) (hN8 : N ≤ 4) (hko : κ po = 29) (hkd : κ pd = 30) (hI : zI D tc (zA [] [] s.heap.size) s.heap ([(px, .inr (10, [.ref yr, .ref yC, .ref yT, .ref yk, .ref ys, .ref yq, .ref yP, .ref yS, .int 0, .long 0])), (yr, .inl (tc 4, 3, .inr (.inr (.inr (.inr (va_up (va_up (va_up (fun _ => none) (0 : Int32).toNatClampNeg (some y0)) (1 : Int32).toNatClampNeg (some y1)) (2 : Int32).toNatClampNeg (some y2))))))), (yC, .inl (tc 3, 6, .inr (.inr (.inr (.inr (fun _ => none)))))), (yT, .inl (tc 5, 8, .inr (.inr (.inr (.inr (fun _ => none)))))), (yk, .inr (4, [.ref yb, .ref yA, .long 0, .int 0, .int 0])), (ys, .inr (8, [.int 200, .int 5000, .int 600, .long 0, .long 0, .int 0, .long 0, .long 0, .long 0, .long 0])), (yb, .inr (3, [.int 200, .ref yh, .ref yd])), (yq, .inr (7, [.int 0, .int 0, .int 0, .int 0, .int 0, .int 0, .int 45])), (yA, .inr (2, [.ref yAa, .int 1])), (yP, .inr (2, [.ref yPa, .int 0])), (yh, .inr (2, [.ref yha, .int 1])), (yS, .inr (2, [.ref ySa, .int 0])), (yd, .inr (2, [.ref yda, .int 1])), (y0, .inr (6, [.int 500, .int 500])), (yha, .inl (tc 1, 16, .inr (.inl (vp_updL (fun _ => 0) (0 : Int32).toNatClampNeg 4000)))), (y1, .inr (6, [.int 500, .int 500])), (yda, .inl (tc 1, 16, .inr (.inl (vp_updL (fun _ => 0) (0 : Int32).toNatClampNeg 20)))), (y2, .inr (6, [.int 500, .int 500])), (yAa, .inl (tc 1, 16, .inr (.inl (vp_updL (fun _ => 0) (0 : Int32).toNatClampNeg 20)))), (yPa, .inl (tc 1, 16, .inr (.inl (fun _ => 0)))), (ySa, .inl (tc 1, 16, .inr (.inl (fun _ => 0)))), (pm, .inr (13, [.ref lc, .ref lt, .ref pv, .ref pg, .int 0, .int 4000, .int 0, .int 200, .int 5000, .int 600, .int 0, .int 0, .int 0, .int 0, .int 0, .int 0, .int 0, .int 0, .int 0, .long 0, .long 0, .long 0, .long 0, .long 0, .long 0, .int 0, .int 45])), (lc, .inr (1, [.int 0, .ref z0, .int 0])), (lt, .inr (1, [.int 0, .ref z0, .int 0])), (pv, .inl (tc 0, 3, .inl (upd (upd (upd (fun _ => 0) (0 : Int32).toNatClampNeg 500) (1 : Int32).toNatClampNeg 500) (2 : Int32).toNatClampNeg 500))), (pg, .inl (tc 0, 6, .inl (fun _ => 0)))] : va_W) L κ g H locs) (hl : lv_has ls 9 [(0, .ref b), (1, .ref px), (2, .ref pm), (3, .ref po), (4, .ref pd), (5, .int (nI (4 * 0)))])
    (hend : ∀ (d : Drawn) (H : Heap) (locs : List Loc) (ls : Array Slot) (k n : Nat), s.drawn.sameBut d lw_cs → va_S (zA [] [] s.heap.size) s.heap H locs → k ≤ 746514 → n ≤ 6862693 → W p l e room_1 (s.setDrawn d) m #[Value.ref b] below meth c H locs k n Q (F0 m 2258 ls [])) : W p l e room_1 s m #[Value.ref b] below meth c H locs 60 400 Q (F0 m 28 ls []) := by
  have hn : lwN0 p l e s m below meth c b D tc px pm po pd Q := lw_exit1 C hN8 hend
  have hnN : ∀ {rq co sp aC aT : Nat}, lwN p l e s m below meth c b D tc z0 px pm po pd rq co sp aC aT 0 Q := by
    intro rq co sp aC aT d L κ g H locs ls t hd hJ _ _ hI hl
    have htb9 : t ≤ 9999 := hJ.1.2.2.1.2
    exact W.widen (by omega) (by omega) (hn d L κ g H locs ls hd hI hl)
  obtain ⟨hx, hb, hml, hown, hts, hK, hE, hX, hbl⟩ := id C
  have hbA : ¬ zA [] [] s.heap.size b := fun q => by rcases q with q | q | q; exact absurd q List.not_mem_nil; exact absurd q List.not_mem_nil; exact absurd hbl (Nat.not_lt.mpr q)
  refine lv_iload hx hb dL_law_28 (lv_at hl 5 rfl) ?_
  refine lv_aload_n hx hb dL_law_30 rfl (lv_at hl 0 rfl) ?_
  refine va_slen hx hb hX hbl hbA hI.2.1 dL_law_31 ?_
  refine lv_iconst (v := 4) hx hb dL_law_32 (by decide) ?_
  refine lv_isub hx hb dL_law_33 ?_
  refine lv_icmp_gt (tgt := 2258) hx hb dL_law_34 (by decide) (fun _ => ?_) (fun c9 => ?_)
  · refine W.base ?_
    exact hend s.drawn _ _ _ _ _ (Drawn.sameBut.refl _ _) hI.2.1 (Nat.le_of_ble_eq_true rfl) (Nat.le_of_ble_eq_true rfl)
  have hk4 : 4 * 0 + 4 ≤ N := lw_lt (by omega) (by omega) c9
  refine lv_aload_n hx hb dL_law_37 rfl (lv_at hl 0 rfl) ?_
  refine lv_iload hx hb dL_law_38 (lv_at hl 5 rfl) ?_
  refine va_sld hx hb hX hbl hbA hI.2.1 (vp_in_nI (show 4 * 0 < N from by omega) (by omega)) dL_law_40 ?_
  refine lv_bipush (v := 63) hx hb dL_law_41 (by decide) ?_
  refine lv_iand hx hb dL_law_43 ?_
  refine lv_topi (fun x hx9 => ?_)
  clear hx9
  by_cases hr : x.toInt < 0 ∨ 40 < x.toInt
  · refine lv_tableOut (tgt := 2252) hx hb dL_law_44 hr (by decide) ?_
    have hI := z_drop hI
    refine W.widen (k := 746514) (n := 6862693) (Nat.le_of_ble_eq_true rfl) (Nat.le_of_ble_eq_true rfl) ?_
    refine W.base ?_
    exact hn s.drawn L κ g _ _ _ (Drawn.sameBut.refl _ _) hI hl
  · obtain ⟨j, hj, rfl⟩ : ∃ j : Nat, j ≤ 40 ∧ x = Int32.ofNat j := by
      refine ⟨x.toInt.toNat, by omega, Int32.toInt_inj.mp ?_⟩
      have h1 : ((Int32.ofNat x.toInt.toNat).toInt : Int) = (x.toInt.toNat : Int) := nI_toInt (n := x.toInt.toNat) (by omega)
      omega
    clear hr
    rcases (show j = 0 ∨ j = 1 ∨ j = 2 ∨ j = 3 ∨ j = 4 ∨ j = 5 ∨ j = 6 ∨ j = 7 ∨ j = 8 ∨ j = 9 ∨ j = 10 ∨ j = 11 ∨ j = 12 ∨ j = 13 ∨ j = 14 ∨ j = 15 ∨ j = 16 ∨ j = 17 ∨ j = 18 ∨ j = 19 ∨ j = 20 ∨ j = 21 ∨ j = 22 ∨ j = 23 ∨ j = 24 ∨ j = 25 ∨ j = 26 ∨ j = 27 ∨ j = 28 ∨ j = 29 ∨ j = 30 ∨ j = 31 ∨ j = 32 ∨ j = 33 ∨ j = 34 ∨ j = 35 ∨ j = 36 ∨ j = 37 ∨ j = 38 ∨ j = 39 ∨ j = 40 by omega) with rfl | rfl | rfl | rfl | rfl | rfl | rfl | rfl | rfl | rfl | rfl | rfl | rfl | rfl | rfl | rfl | rfl | rfl | rfl | rfl | rfl | rfl | rfl | rfl | rfl | rfl | rfl | rfl | rfl | rfl | rfl | rfl | rfl | rfl | rfl | rfl | rfl | rfl | rfl | rfl | rfl
    · refine lv_tableIn (x := 0) (tgt := 224) hx hb dL_law_44 (by decide) (by decide) rfl (by decide) ?_
      obtain ⟨L2, κ2, g2, hx2, hko2, hkd2, hJ, h0, hI2⟩ := lw_pool1 hko hkd hI
      refine W.widen (k := 60 + 20 * 0 + 37 * 0) (n := 400 + 120 * 0 + 162 * 0) (Nat.le_refl _) (Nat.le_refl _) ?_
      exact k_core l hnt C hk4 (by omega) hJ h0 hko2 hkd2 hI2 hl hnN
    · refine lv_tableIn (x := 1) (tgt := 294) hx hb dL_law_44 (by decide) (by decide) rfl (by decide) ?_
      obtain ⟨L2, κ2, g2, hx2, hko2, hkd2, hJ, h0, hI2⟩ := lw_pool1 hko hkd hI
      refine W.widen (k := 60 + 20 * 0 + 37 * 0) (n := 400 + 120 * 0 + 162 * 0) (Nat.le_refl _) (Nat.le_refl _) ?_
      exact k_thread l hnt C hk4 (by omega) hJ h0 hko2 hkd2 hI2 hl hnN
    · refine lv_tableIn (x := 2) (tgt := 374) hx hb dL_law_44 (by decide) (by decide) rfl (by decide) ?_
      obtain ⟨L2, κ2, g2, hx2, hko2, hkd2, hJ, h0, hI2⟩ := lw_pool1 hko hkd hI
      refine W.widen (k := 60 + 20 * 0 + 37 * 0) (n := 400 + 120 * 0 + 162 * 0) (Nat.le_refl _) (Nat.le_refl _) ?_
      exact k_feed l hnt C hk4 (by omega) hJ h0 hko2 hkd2 hI2 hl hnN
    · refine lv_tableIn (x := 3) (tgt := 442) hx hb dL_law_44 (by decide) (by decide) rfl (by decide) ?_
      obtain ⟨L2, κ2, g2, hx2, hko2, hkd2, hJ, h0, hI2⟩ := lw_pool1 hko hkd hI
      refine W.widen (k := 60 + 20 * 0 + 37 * 0) (n := 400 + 120 * 0 + 162 * 0) (Nat.le_refl _) (Nat.le_refl _) ?_
      exact k_move l hnt C hk4 (by omega) hJ h0 hko2 hkd2 hI2 hl hnN
    · refine lv_tableIn (x := 4) (tgt := 510) hx hb dL_law_44 (by decide) (by decide) rfl (by decide) ?_
      obtain ⟨L2, κ2, g2, hx2, hko2, hkd2, hJ, h0, hI2⟩ := lw_pool1 hko hkd hI
      refine W.widen (k := 60 + 20 * 0 + 37 * 0) (n := 400 + 120 * 0 + 162 * 0) (Nat.le_refl _) (Nat.le_refl _) ?_
      exact k_governor l hnt C hk4 (by omega) hJ h0 hko2 hkd2 hI2 hl hnN
    · refine lv_tableIn (x := 5) (tgt := 592) hx hb dL_law_44 (by decide) (by decide) rfl (by decide) ?_
      obtain ⟨L2, κ2, g2, hx2, hko2, hkd2, hJ, h0, hI2⟩ := lw_pool1 hko hkd hI
      refine W.widen (k := 60 + 20 * 0 + 37 * 0) (n := 400 + 120 * 0 + 162 * 0) (Nat.le_refl _) (Nat.le_refl _) ?_
      exact k_work l hnt C hk4 (by omega) hJ h0 hko2 hkd2 hI2 hl hnN
    · refine lv_tableIn (x := 6) (tgt := 648) hx hb dL_law_44 (by decide) (by decide) rfl (by decide) ?_
      obtain ⟨L2, κ2, g2, hx2, hko2, hkd2, hJ, h0, hI2⟩ := lw_pool1 hko hkd hI
      refine W.widen (k := 60 + 20 * 0 + 37 * 0) (n := 400 + 120 * 0 + 162 * 0) (Nat.le_refl _) (Nat.le_refl _) ?_
      exact k_isCold l hnt C hk4 (by omega) hJ h0 hko2 hkd2 hI2 hl hnN
    · refine lv_tableIn (x := 7) (tgt := 711) hx hb dL_law_44 (by decide) (by decide) rfl (by decide) ?_
      obtain ⟨L2, κ2, g2, hx2, hko2, hkd2, hJ, h0, hI2⟩ := lw_pool1 hko hkd hI
      refine W.widen (k := 60 + 20 * 0 + 37 * 0) (n := 400 + 120 * 0 + 162 * 0) (Nat.le_refl _) (Nat.le_refl _) ?_
      exact k_pass l hnt C hk4 (by omega) hJ h0 hko2 hkd2 hI2 hl hnN
    · refine lv_tableIn (x := 8) (tgt := 767) hx hb dL_law_44 (by decide) (by decide) rfl (by decide) ?_
      obtain ⟨L2, κ2, g2, hx2, hko2, hkd2, hJ, h0, hI2⟩ := lw_pool1 hko hkd hI
      refine W.widen (k := 60 + 20 * 0 + 37 * 0) (n := 400 + 120 * 0 + 162 * 0) (Nat.le_refl _) (Nat.le_refl _) ?_
      exact k_speed l hnt C hk4 (by omega) hJ h0 hko2 hkd2 hI2 hl hnN
    · refine lv_tableIn (x := 9) (tgt := 823) hx hb dL_law_44 (by decide) (by decide) rfl (by decide) ?_
      obtain ⟨L2, κ2, g2, hx2, hko2, hkd2, hJ, h0, hI2⟩ := lw_pool1 hko hkd hI
      refine W.widen (k := 60 + 20 * 0 + 37 * 0) (n := 400 + 120 * 0 + 162 * 0) (Nat.le_refl _) (Nat.le_refl _) ?_
      exact k_wanted l hnt C hk4 (by omega) hJ h0 hko2 hkd2 hI2 hl hnN
    · refine lv_tableIn (x := 10) (tgt := 879) hx hb dL_law_44 (by decide) (by decide) rfl (by decide) ?_
      obtain ⟨L2, κ2, g2, hx2, hko2, hkd2, hJ, h0, hI2⟩ := lw_pool1 hko hkd hI
      refine W.widen (k := 60 + 20 * 0 + 37 * 0) (n := 400 + 120 * 0 + 162 * 0) (Nat.le_refl _) (Nat.le_refl _) ?_
      exact k_clamp l hnt C hk4 (by omega) hJ h0 hko2 hkd2 hI2 hl hnN
    · refine lv_tableIn (x := 11) (tgt := 935) hx hb dL_law_44 (by decide) (by decide) rfl (by decide) ?_
      obtain ⟨L2, κ2, g2, hx2, hko2, hkd2, hJ, h0, hI2⟩ := lw_pool1 hko hkd hI
      refine W.widen (k := 60 + 20 * 0 + 37 * 0) (n := 400 + 120 * 0 + 162 * 0) (Nat.le_refl _) (Nat.le_refl _) ?_
      exact k_sleep l hnt C hk4 (by omega) hJ h0 hko2 hkd2 hI2 hl hnN
    · refine lv_tableIn (x := 12) (tgt := 991) hx hb dL_law_44 (by decide) (by decide) rfl (by decide) ?_
      obtain ⟨L2, κ2, g2, hx2, hko2, hkd2, hJ, h0, hI2⟩ := lw_pool1 hko hkd hI
      refine W.widen (k := 60 + 20 * 0 + 37 * 0) (n := 400 + 120 * 0 + 162 * 0) (Nat.le_refl _) (Nat.le_refl _) ?_
      exact k_isBusy l hnt C hk4 (by omega) hJ h0 hko2 hkd2 hI2 hl hnN
    · refine lv_tableIn (x := 13) (tgt := 1054) hx hb dL_law_44 (by decide) (by decide) rfl (by decide) ?_
      obtain ⟨L2, κ2, g2, hx2, hko2, hkd2, hJ, h0, hI2⟩ := lw_pool1 hko hkd hI
      refine W.widen (k := 60 + 20 * 0 + 37 * 0) (n := 400 + 120 * 0 + 162 * 0) (Nat.le_refl _) (Nat.le_refl _) ?_
      exact k_need l hnt C hk4 (by omega) hJ h0 hko2 hkd2 hI2 hl hnN
    · refine lv_tableIn (x := 14) (tgt := 1122) hx hb dL_law_44 (by decide) (by decide) rfl (by decide) ?_
      by_cases hv : vp_in (xs (nI (4 * 0 + 1)).toNatClampNeg) 3
      · obtain ⟨i, hi, hX1⟩ := vp_in_of hv (by decide)
        rcases (show i = 0 ∨ i = 1 ∨ i = 2 by omega) with rfl | rfl | rfl
        · exact k1_volts_0 l hnt C hk4 hN8 (hX1.trans (by decide)) hko hI hl hn
        · exact k1_volts_1 l hnt C hk4 hN8 (hX1.trans (by decide)) hko hI hl hn
        · exact k1_volts_2 l hnt C hk4 hN8 (hX1.trans (by decide)) hko hI hl hn
      · skip
        obtain ⟨L2, κ2, g2, hx2, hko2, hkd2, hJ, h0, hI2⟩ := lw_pool1 hko hkd hI
        refine W.widen (k := 60 + 20 * 0 + 37 * 0) (n := 400 + 120 * 0 + 162 * 0) (Nat.le_refl _) (Nat.le_refl _) ?_
        exact k_volts l hnt C hk4 (by omega) hJ h0 hv hko2 hkd2 hI2 hl hnN
    · refine lv_tableIn (x := 15) (tgt := 1178) hx hb dL_law_44 (by decide) (by decide) rfl (by decide) ?_
      obtain ⟨L2, κ2, g2, hx2, hko2, hkd2, hJ, h0, hI2⟩ := lw_pool1 hko hkd hI
      refine W.widen (k := 60 + 20 * 0 + 37 * 0) (n := 400 + 120 * 0 + 162 * 0) (Nat.le_refl _) (Nat.le_refl _) ?_
      exact k_heat l hnt C hk4 (by omega) hJ h0 hko2 hkd2 hI2 hl hnN
    · refine lv_tableIn (x := 16) (tgt := 1234) hx hb dL_law_44 (by decide) (by decide) rfl (by decide) ?_
      obtain ⟨L2, κ2, g2, hx2, hko2, hkd2, hJ, h0, hI2⟩ := lw_pool1 hko hkd hI
      refine W.widen (k := 60 + 20 * 0 + 37 * 0) (n := 400 + 120 * 0 + 162 * 0) (Nat.le_refl _) (Nat.le_refl _) ?_
      exact k_degrees l hnt C hk4 (by omega) hJ h0 hko2 hkd2 hI2 hl hnN
    · refine lv_tableIn (x := 17) (tgt := 1290) hx hb dL_law_44 (by decide) (by decide) rfl (by decide) ?_
      exact k1_caseDegrees l hnt C hk4 hN8 hko hI hl hn
    · refine lv_tableIn (x := 18) (tgt := 1303) hx hb dL_law_44 (by decide) (by decide) rfl (by decide) ?_
      obtain ⟨L2, κ2, g2, hx2, hko2, hkd2, hJ, h0, hI2⟩ := lw_pool1 hko hkd hI
      refine W.widen (k := 60 + 20 * 0 + 37 * 0) (n := 400 + 120 * 0 + 162 * 0) (Nat.le_refl _) (Nat.le_refl _) ?_
      exact k_sensor l hnt C hk4 (by omega) hJ h0 hko2 hkd2 hI2 hl hnN
    · refine lv_tableIn (x := 19) (tgt := 1359) hx hb dL_law_44 (by decide) (by decide) rfl (by decide) ?_
      obtain ⟨L2, κ2, g2, hx2, hko2, hkd2, hJ, h0, hI2⟩ := lw_pool1 hko hkd hI
      refine W.widen (k := 60 + 20 * 0 + 37 * 0) (n := 400 + 120 * 0 + 162 * 0) (Nat.le_refl _) (Nat.le_refl _) ?_
      exact k_lose l hnt C hk4 (by omega) hJ h0 hko2 hkd2 hI2 hl hnN
    · refine lv_tableIn (x := 20) (tgt := 1450) hx hb dL_law_44 (by decide) (by decide) rfl (by decide) ?_
      obtain ⟨L2, κ2, g2, hx2, hko2, hkd2, hJ, h0, hI2⟩ := lw_pool1 hko hkd hI
      refine W.widen (k := 60 + 20 * 0 + 37 * 0) (n := 400 + 120 * 0 + 162 * 0) (Nat.le_refl _) (Nat.le_refl _) ?_
      exact k_isTripped l hnt C hk4 (by omega) hJ h0 hko2 hkd2 hI2 hl hnN
    · refine lv_tableIn (x := 21) (tgt := 1513) hx hb dL_law_44 (by decide) (by decide) rfl (by decide) ?_
      exact k1_fan l hnt C hk4 hN8 hko hI hl hn
    · refine lv_tableIn (x := 22) (tgt := 1526) hx hb dL_law_44 (by decide) (by decide) rfl (by decide) ?_
      obtain ⟨L2, κ2, g2, hx2, hko2, hkd2, hJ, h0, hI2⟩ := lw_pool1 hko hkd hI
      refine W.widen (k := 60 + 20 * 0 + 37 * 0) (n := 400 + 120 * 0 + 162 * 0) (Nat.le_refl _) (Nat.le_refl _) ?_
      exact k_killFan l hnt C hk4 (by omega) hJ h0 hko2 hkd2 hI2 hl hnN
    · refine lv_tableIn (x := 23) (tgt := 1567) hx hb dL_law_44 (by decide) (by decide) rfl (by decide) ?_
      obtain ⟨L2, κ2, g2, hx2, hko2, hkd2, hJ, h0, hI2⟩ := lw_pool1 hko hkd hI
      refine W.widen (k := 60 + 20 * 0 + 37 * 0) (n := 400 + 120 * 0 + 162 * 0) (Nat.le_refl _) (Nat.le_refl _) ?_
      exact k_heatUp l hnt C hk4 (by omega) hJ h0 hko2 hkd2 hI2 hl hnN
    · refine lv_tableIn (x := 24) (tgt := 1635) hx hb dL_law_44 (by decide) (by decide) rfl (by decide) ?_
      obtain ⟨L2, κ2, g2, hx2, hko2, hkd2, hJ, h0, hI2⟩ := lw_pool1 hko hkd hI
      refine W.widen (k := 60 + 20 * 0 + 37 * 0) (n := 400 + 120 * 0 + 162 * 0) (Nat.le_refl _) (Nat.le_refl _) ?_
      exact k_wall l hnt C hk4 (by omega) hJ h0 hko2 hkd2 hI2 hl hnN
    · refine lv_tableIn (x := 25) (tgt := 1691) hx hb dL_law_44 (by decide) (by decide) rfl (by decide) ?_
      exact k1_battery l hnt C hk4 hN8 hko hI hl hn
    · refine lv_tableIn (x := 26) (tgt := 1704) hx hb dL_law_44 (by decide) (by decide) rfl (by decide) ?_
      exact k1_purse l hnt C hk4 hN8 hko hI hl hn
    · refine lv_tableIn (x := 27) (tgt := 1717) hx hb dL_law_44 (by decide) (by decide) rfl (by decide) ?_
      exact k1_taken l hnt C hk4 hN8 hko hI hl hn
    · refine lv_tableIn (x := 28) (tgt := 1730) hx hb dL_law_44 (by decide) (by decide) rfl (by decide) ?_
      exact k1_owed l hnt C hk4 hN8 hko hI hl hn
    · refine lv_tableIn (x := 29) (tgt := 1743) hx hb dL_law_44 (by decide) (by decide) rfl (by decide) ?_
      obtain ⟨L2, κ2, g2, hx2, hko2, hkd2, hJ, h0, hI2⟩ := lw_pool1 hko hkd hI
      refine W.widen (k := 60 + 20 * 0 + 37 * 0) (n := 400 + 120 * 0 + 162 * 0) (Nat.le_refl _) (Nat.le_refl _) ?_
      exact k_request l hnt C hk4 (by omega) hJ h0 hko2 hkd2 hI2 hl hnN
    · refine lv_tableIn (x := 30) (tgt := 1811) hx hb dL_law_44 (by decide) (by decide) rfl (by decide) ?_
      obtain ⟨L2, κ2, g2, hx2, hko2, hkd2, hJ, h0, hI2⟩ := lw_pool1 hko hkd hI
      refine W.widen (k := 60 + 20 * 0 + 37 * 0) (n := 400 + 120 * 0 + 162 * 0) (Nat.le_refl _) (Nat.le_refl _) ?_
      exact k_holds l hnt C hk4 (by omega) hJ h0 hko2 hkd2 hI2 hl hnN
    · refine lv_tableIn (x := 31) (tgt := 1824) hx hb dL_law_44 (by decide) (by decide) rfl (by decide) ?_
      obtain ⟨L2, κ2, g2, hx2, hko2, hkd2, hJ, h0, hI2⟩ := lw_pool1 hko hkd hI
      refine W.widen (k := 60 + 20 * 0 + 37 * 0) (n := 400 + 120 * 0 + 162 * 0) (Nat.le_refl _) (Nat.le_refl _) ?_
      exact k_why l hnt C hk4 (by omega) hJ h0 hko2 hkd2 hI2 hl hnN
    · refine lv_tableIn (x := 32) (tgt := 1837) hx hb dL_law_44 (by decide) (by decide) rfl (by decide) ?_
      obtain ⟨L2, κ2, g2, hx2, hko2, hkd2, hJ, h0, hI2⟩ := lw_pool1 hko hkd hI
      refine W.widen (k := 60 + 20 * 0 + 37 * 0) (n := 400 + 120 * 0 + 162 * 0) (Nat.le_refl _) (Nat.le_refl _) ?_
      exact k_drop l hnt C hk4 (by omega) hJ h0 hko2 hkd2 hI2 hl hnN
    · refine lv_tableIn (x := 33) (tgt := 1850) hx hb dL_law_44 (by decide) (by decide) rfl (by decide) ?_
      obtain ⟨L2, κ2, g2, hx2, hko2, hkd2, hJ, h0, hI2⟩ := lw_pool1 hko hkd hI
      refine W.widen (k := 60 + 20 * 0 + 37 * 0) (n := 400 + 120 * 0 + 162 * 0) (Nat.le_refl _) (Nat.le_refl _) ?_
      exact k_age l hnt C hk4 (by omega) hJ h0 hko2 hkd2 hI2 hl hnN
    · refine lv_tableIn (x := 34) (tgt := 1906) hx hb dL_law_44 (by decide) (by decide) rfl (by decide) ?_
      obtain ⟨L2, κ2, g2, hx2, hko2, hkd2, hJ, h0, hI2⟩ := lw_pool1 hko hkd hI
      refine W.widen (k := 60 + 20 * 0 + 37 * 0) (n := 400 + 120 * 0 + 162 * 0) (Nat.le_refl _) (Nat.le_refl _) ?_
      exact k_isRetired l hnt C hk4 (by omega) hJ h0 hko2 hkd2 hI2 hl hnN
    · refine lv_tableIn (x := 35) (tgt := 1969) hx hb dL_law_44 (by decide) (by decide) rfl (by decide) ?_
      obtain ⟨L2, κ2, g2, hx2, hko2, hkd2, hJ, h0, hI2⟩ := lw_pool1 hko hkd hI
      refine W.widen (k := 60 + 20 * 0 + 37 * 0) (n := 400 + 120 * 0 + 162 * 0) (Nat.le_refl _) (Nat.le_refl _) ?_
      exact k_wear l hnt C hk4 (by omega) hJ h0 hko2 hkd2 hI2 hl hnN
    · refine lv_tableIn (x := 36) (tgt := 2037) hx hb dL_law_44 (by decide) (by decide) rfl (by decide) ?_
      by_cases hv : KS9 (((xs (nI (4 * 0 + 1)).toNatClampNeg).toUInt32 % 65536).toInt32)
      · rcases hv with hv | hv | hv | hv | hv | hv
        · exact k1_account_119 l hnt C hk4 hN8 hv hko hI hl hn
        · exact k1_account_98 l hnt C hk4 hN8 hv hko hI hl hn
        · exact k1_account_111 l hnt C hk4 hN8 hv hko hI hl hn
        · exact k1_account_104 l hnt C hk4 hN8 hv hko hI hl hn
        · exact k1_account_97 l hnt C hk4 hN8 hv hko hI hl hn
        · exact k1_account_116 l hnt C hk4 hN8 hv hko hI hl hn
      · skip
        obtain ⟨L2, κ2, g2, hx2, hko2, hkd2, hJ, h0, hI2⟩ := lw_pool1 hko hkd hI
        refine W.widen (k := 60 + 20 * 0 + 37 * 0) (n := 400 + 120 * 0 + 162 * 0) (Nat.le_refl _) (Nat.le_refl _) ?_
        exact k_account l hnt C hk4 (by omega) hJ h0 hv hko2 hkd2 hI2 hl hnN
    · refine lv_tableIn (x := 37) (tgt := 2094) hx hb dL_law_44 (by decide) (by decide) rfl (by decide) ?_
      exact k1_checksum l hnt C hk4 hN8 hko hI hl hn
    · refine lv_tableIn (x := 38) (tgt := 2108) hx hb dL_law_44 (by decide) (by decide) rfl (by decide) ?_
      obtain ⟨L2, κ2, g2, hx2, hko2, hkd2, hJ, h0, hI2⟩ := lw_pool1 hko hkd hI
      refine W.widen (k := 60 + 20 * 0 + 37 * 0) (n := 400 + 120 * 0 + 162 * 0) (Nat.le_refl _) (Nat.le_refl _) ?_
      exact k_busyShare l hnt C hk4 (by omega) hJ h0 hko2 hkd2 hI2 hl hnN
    · refine lv_tableIn (x := 39) (tgt := 2174) hx hb dL_law_44 (by decide) (by decide) rfl (by decide) ?_
      obtain ⟨L2, κ2, g2, hx2, hko2, hkd2, hJ, h0, hI2⟩ := lw_pool1 hko hkd hI
      refine W.widen (k := 60 + 20 * 0 + 37 * 0) (n := 400 + 120 * 0 + 162 * 0) (Nat.le_refl _) (Nat.le_refl _) ?_
      exact k_meanDegrees l hnt C hk4 (by omega) hJ h0 hko2 hkd2 hI2 hl hnN
    · refine lv_tableIn (x := 40) (tgt := 2239) hx hb dL_law_44 (by decide) (by decide) rfl (by decide) ?_
      exact k1_isSound l hnt C hk4 hN8 hko hI hl hn
