theorem lw_lt {N k : Nat} (hN : N ≤ 2048) (hk : k ≤ 512) (h : ¬ nI N - 4 < nI (4 * k)) : 4 * k + 4 ≤ N := by
  by_cases h4 : 4 ≤ N
  · have e1 : nI N - 4 = nI (N - 4) := by
      have e2 : nI (N - 4) + 4 = nI N := (nI_add (N - 4) 4).trans (by rw [show N - 4 + 4 = N by omega])
      rw [← e2, Int32.add_sub_cancel]
    rw [e1] at h
    have e3 : ¬ N - 4 < 4 * k := fun q => h (nI_lt q (by omega))
    omega
  · exfalso
    refine h (Int32.lt_of_lt_of_le (b := 0) ?_ (nI_pos' (by omega)))
    rcases (show N = 0 ∨ N = 1 ∨ N = 2 ∨ N = 3 by omega) with rfl | rfl | rfl | rfl <;> decide
set_option maxHeartbeats 4000000 in
set_option maxRecDepth 100000 in
/-- one pass of the loop: its switch -/
theorem lw_body (l : Launch) (hnt : l.stackTraces = false) {p : Program} {e : Env} {s : State} {m : MethodId} {below : List Frame} {meth : Method} {c : Code} {H : Heap} {locs : List Loc} {Q : State → Prop} {D : va_G} {tc : Nat → ClassId} {z0 b N : Nat} {xs : Nat → Int32} {px pm po pd rq co sp aC aT t k : Nat} {L : List Nat} {κ : Nat → Nat} {g : Nat → Nat → Value} {ls : Array Slot} (C : lwC p s m meth c b N xs D tc z0) (hN8 : N ≤ 2048) (hk5 : k ≤ 512) (hJ : zJ κ g z0 px pm rq co sp aC aT t) (hko : κ po = 29) (hkd : κ pd = 30) (hI : zI D tc (zA [] [] s.heap.size) s.heap [] L κ g H locs) (hl : lv_has ls 9 [(0, .ref b), (1, .ref px), (2, .ref pm), (3, .ref po), (4, .ref pd), (5, .int (nI (4 * k)))])
    (hend : W p l e room_1 s m #[Value.ref b] below meth c H locs (60 + 20 * k + 37 * t) (400 + 120 * k + 162 * t) Q (F0 m 1398 ls [])) (hn : 4 * k + 4 ≤ N → lwN p l e s m below meth c b D tc z0 px pm po pd rq co sp aC aT k Q) : W p l e room_1 s m #[Value.ref b] below meth c H locs (60 + 20 * k + 37 * t) (400 + 120 * k + 162 * t) Q (F0 m 28 ls []) := by
  obtain ⟨hx, hb, hml, hown, hts, hK, hE, hX, hbl⟩ := id C
  have hbA : ¬ zA [] [] s.heap.size b := fun q => by rcases q with q | q | q; exact absurd q List.not_mem_nil; exact absurd q List.not_mem_nil; exact absurd hbl (Nat.not_lt.mpr q)
  have htb9 : t ≤ 9999 := hJ.1.2.2.1.2
  refine lv_iload hx hb dL_law_28 (lv_at hl 5 rfl) ?_
  refine lv_aload_n hx hb dL_law_30 rfl (lv_at hl 0 rfl) ?_
  refine va_slen hx hb hX hbl hbA hI.2.1 dL_law_31 ?_
  refine lv_iconst (v := 4) hx hb dL_law_32 (by decide) ?_
  refine lv_isub hx hb dL_law_33 ?_
  refine lv_icmp_gt (tgt := 1398) hx hb dL_law_34 (by decide) (fun _ => hend) (fun c9 => ?_)
  have hk4 : 4 * k + 4 ≤ N := lw_lt hN8 hk5 c9
  have hn := hn hk4
  refine lv_aload_n hx hb dL_law_37 rfl (lv_at hl 0 rfl) ?_
  refine lv_iload hx hb dL_law_38 (lv_at hl 5 rfl) ?_
  refine va_sld hx hb hX hbl hbA hI.2.1 (vp_in_nI (show 4 * k < N from by omega) (by omega)) dL_law_40 ?_
  refine lv_bipush (v := 63) hx hb dL_law_41 (by decide) ?_
  refine lv_iand hx hb dL_law_43 ?_
  refine lv_topi (fun x hx9 => ?_)
  clear hx9
  by_cases hr : x.toInt < 0 ∨ 40 < x.toInt
  · refine lv_tableOut (tgt := 1392) hx hb dL_law_44 hr (by decide) ?_
    refine W.widen (k := 60 + 20 * (k + 1) + 37 * t) (n := 400 + 120 * (k + 1) + 162 * t) (by omega) (by omega) ?_
    refine W.base ?_
    exact hn s.drawn L κ g _ _ _ _ (Drawn.sameBut.refl _ _) hJ hko hkd hI hl
  · obtain ⟨j, hj, rfl⟩ : ∃ j : Nat, j ≤ 40 ∧ x = Int32.ofNat j := by
      refine ⟨x.toInt.toNat, by omega, Int32.toInt_inj.mp ?_⟩
      have h1 : ((Int32.ofNat x.toInt.toNat).toInt : Int) = (x.toInt.toNat : Int) := nI_toInt (n := x.toInt.toNat) (by omega)
      omega
    clear hr
    rcases (show j = 0 ∨ j = 1 ∨ j = 2 ∨ j = 3 ∨ j = 4 ∨ j = 5 ∨ j = 6 ∨ j = 7 ∨ j = 8 ∨ j = 9 ∨ j = 10 ∨ j = 11 ∨ j = 12 ∨ j = 13 ∨ j = 14 ∨ j = 15 ∨ j = 16 ∨ j = 17 ∨ j = 18 ∨ j = 19 ∨ j = 20 ∨ j = 21 ∨ j = 22 ∨ j = 23 ∨ j = 24 ∨ j = 25 ∨ j = 26 ∨ j = 27 ∨ j = 28 ∨ j = 29 ∨ j = 30 ∨ j = 31 ∨ j = 32 ∨ j = 33 ∨ j = 34 ∨ j = 35 ∨ j = 36 ∨ j = 37 ∨ j = 38 ∨ j = 39 ∨ j = 40 by omega) with rfl | rfl | rfl | rfl | rfl | rfl | rfl | rfl | rfl | rfl | rfl | rfl | rfl | rfl | rfl | rfl | rfl | rfl | rfl | rfl | rfl | rfl | rfl | rfl | rfl | rfl | rfl | rfl | rfl | rfl | rfl | rfl | rfl | rfl | rfl | rfl | rfl | rfl | rfl | rfl | rfl
    · refine lv_tableIn (x := 0) (tgt := 224) hx hb dL_law_44 (by decide) (by decide) rfl (by decide) ?_
      exact k_core l hnt C hk4 hN8 hJ hko hkd hI hl hn
    · refine lv_tableIn (x := 1) (tgt := 266) hx hb dL_law_44 (by decide) (by decide) rfl (by decide) ?_
      exact k_thread l hnt C hk4 hN8 hJ hko hkd hI hl hn
    · refine lv_tableIn (x := 2) (tgt := 346) hx hb dL_law_44 (by decide) (by decide) rfl (by decide) ?_
      exact k_feed l hnt C hk4 hN8 hJ hko hkd hI hl hn
    · refine lv_tableIn (x := 3) (tgt := 386) hx hb dL_law_44 (by decide) (by decide) rfl (by decide) ?_
      exact k_move l hnt C hk4 hN8 hJ hko hkd hI hl hn
    · refine lv_tableIn (x := 4) (tgt := 426) hx hb dL_law_44 (by decide) (by decide) rfl (by decide) ?_
      exact k_governor l hnt C hk4 hN8 hJ hko hkd hI hl hn
    · refine lv_tableIn (x := 5) (tgt := 480) hx hb dL_law_44 (by decide) (by decide) rfl (by decide) ?_
      exact k_work l hnt C hk4 hN8 hJ hko hkd hI hl hn
    · refine lv_tableIn (x := 6) (tgt := 508) hx hb dL_law_44 (by decide) (by decide) rfl (by decide) ?_
      exact k_isCold l hnt C hk4 hN8 hJ hko hkd hI hl hn
    · refine lv_tableIn (x := 7) (tgt := 536) hx hb dL_law_44 (by decide) (by decide) rfl (by decide) ?_
      exact k_pass l hnt C hk4 hN8 hJ hko hkd hI hl hn
    · refine lv_tableIn (x := 8) (tgt := 564) hx hb dL_law_44 (by decide) (by decide) rfl (by decide) ?_
      exact k_speed l hnt C hk4 hN8 hJ hko hkd hI hl hn
    · refine lv_tableIn (x := 9) (tgt := 592) hx hb dL_law_44 (by decide) (by decide) rfl (by decide) ?_
      exact k_wanted l hnt C hk4 hN8 hJ hko hkd hI hl hn
    · refine lv_tableIn (x := 10) (tgt := 620) hx hb dL_law_44 (by decide) (by decide) rfl (by decide) ?_
      exact k_clamp l hnt C hk4 hN8 hJ hko hkd hI hl hn
    · refine lv_tableIn (x := 11) (tgt := 648) hx hb dL_law_44 (by decide) (by decide) rfl (by decide) ?_
      exact k_sleep l hnt C hk4 hN8 hJ hko hkd hI hl hn
    · refine lv_tableIn (x := 12) (tgt := 676) hx hb dL_law_44 (by decide) (by decide) rfl (by decide) ?_
      exact k_isBusy l hnt C hk4 hN8 hJ hko hkd hI hl hn
    · refine lv_tableIn (x := 13) (tgt := 704) hx hb dL_law_44 (by decide) (by decide) rfl (by decide) ?_
      exact k_need l hnt C hk4 hN8 hJ hko hkd hI hl hn
    · refine lv_tableIn (x := 14) (tgt := 744) hx hb dL_law_44 (by decide) (by decide) rfl (by decide) ?_
      exact k_volts l hnt C hk4 hN8 hJ hko hkd hI hl hn
    · refine lv_tableIn (x := 15) (tgt := 772) hx hb dL_law_44 (by decide) (by decide) rfl (by decide) ?_
      exact k_heat l hnt C hk4 hN8 hJ hko hkd hI hl hn
    · refine lv_tableIn (x := 16) (tgt := 800) hx hb dL_law_44 (by decide) (by decide) rfl (by decide) ?_
      exact k_degrees l hnt C hk4 hN8 hJ hko hkd hI hl hn
    · refine lv_tableIn (x := 17) (tgt := 828) hx hb dL_law_44 (by decide) (by decide) rfl (by decide) ?_
      exact k_caseDegrees l hnt C hk4 hN8 hJ hko hkd hI hl hn
    · refine lv_tableIn (x := 18) (tgt := 841) hx hb dL_law_44 (by decide) (by decide) rfl (by decide) ?_
      exact k_sensor l hnt C hk4 hN8 hJ hko hkd hI hl hn
    · refine lv_tableIn (x := 19) (tgt := 869) hx hb dL_law_44 (by decide) (by decide) rfl (by decide) ?_
      exact k_lose l hnt C hk4 hN8 hJ hko hkd hI hl hn
    · refine lv_tableIn (x := 20) (tgt := 925) hx hb dL_law_44 (by decide) (by decide) rfl (by decide) ?_
      exact k_isTripped l hnt C hk4 hN8 hJ hko hkd hI hl hn
    · refine lv_tableIn (x := 21) (tgt := 953) hx hb dL_law_44 (by decide) (by decide) rfl (by decide) ?_
      exact k_fan l hnt C hk4 hN8 hJ hko hkd hI hl hn
    · refine lv_tableIn (x := 22) (tgt := 966) hx hb dL_law_44 (by decide) (by decide) rfl (by decide) ?_
      exact k_killFan l hnt C hk4 hN8 hJ hko hkd hI hl hn
    · refine lv_tableIn (x := 23) (tgt := 1007) hx hb dL_law_44 (by decide) (by decide) rfl (by decide) ?_
      exact k_heatUp l hnt C hk4 hN8 hJ hko hkd hI hl hn
    · refine lv_tableIn (x := 24) (tgt := 1047) hx hb dL_law_44 (by decide) (by decide) rfl (by decide) ?_
      exact k_wall l hnt C hk4 hN8 hJ hko hkd hI hl hn
    · refine lv_tableIn (x := 25) (tgt := 1075) hx hb dL_law_44 (by decide) (by decide) rfl (by decide) ?_
      exact k_battery l hnt C hk4 hN8 hJ hko hkd hI hl hn
    · refine lv_tableIn (x := 26) (tgt := 1088) hx hb dL_law_44 (by decide) (by decide) rfl (by decide) ?_
      exact k_purse l hnt C hk4 hN8 hJ hko hkd hI hl hn
    · refine lv_tableIn (x := 27) (tgt := 1101) hx hb dL_law_44 (by decide) (by decide) rfl (by decide) ?_
      exact k_taken l hnt C hk4 hN8 hJ hko hkd hI hl hn
    · refine lv_tableIn (x := 28) (tgt := 1114) hx hb dL_law_44 (by decide) (by decide) rfl (by decide) ?_
      exact k_owed l hnt C hk4 hN8 hJ hko hkd hI hl hn
    · refine lv_tableIn (x := 29) (tgt := 1127) hx hb dL_law_44 (by decide) (by decide) rfl (by decide) ?_
      exact k_request l hnt C hk4 hN8 hJ hko hkd hI hl hn
    · refine lv_tableIn (x := 30) (tgt := 1167) hx hb dL_law_44 (by decide) (by decide) rfl (by decide) ?_
      exact k_holds l hnt C hk4 hN8 hJ hko hkd hI hl hn
    · refine lv_tableIn (x := 31) (tgt := 1180) hx hb dL_law_44 (by decide) (by decide) rfl (by decide) ?_
      exact k_why l hnt C hk4 hN8 hJ hko hkd hI hl hn
    · refine lv_tableIn (x := 32) (tgt := 1193) hx hb dL_law_44 (by decide) (by decide) rfl (by decide) ?_
      exact k_drop l hnt C hk4 hN8 hJ hko hkd hI hl hn
    · refine lv_tableIn (x := 33) (tgt := 1206) hx hb dL_law_44 (by decide) (by decide) rfl (by decide) ?_
      exact k_age l hnt C hk4 hN8 hJ hko hkd hI hl hn
    · refine lv_tableIn (x := 34) (tgt := 1234) hx hb dL_law_44 (by decide) (by decide) rfl (by decide) ?_
      exact k_isRetired l hnt C hk4 hN8 hJ hko hkd hI hl hn
    · refine lv_tableIn (x := 35) (tgt := 1262) hx hb dL_law_44 (by decide) (by decide) rfl (by decide) ?_
      exact k_wear l hnt C hk4 hN8 hJ hko hkd hI hl hn
    · refine lv_tableIn (x := 36) (tgt := 1302) hx hb dL_law_44 (by decide) (by decide) rfl (by decide) ?_
      exact k_account l hnt C hk4 hN8 hJ hko hkd hI hl hn
    · refine lv_tableIn (x := 37) (tgt := 1332) hx hb dL_law_44 (by decide) (by decide) rfl (by decide) ?_
      exact k_checksum l hnt C hk4 hN8 hJ hko hkd hI hl hn
    · refine lv_tableIn (x := 38) (tgt := 1345) hx hb dL_law_44 (by decide) (by decide) rfl (by decide) ?_
      exact k_busyShare l hnt C hk4 hN8 hJ hko hkd hI hl hn
    · refine lv_tableIn (x := 39) (tgt := 1362) hx hb dL_law_44 (by decide) (by decide) rfl (by decide) ?_
      exact k_meanDegrees l hnt C hk4 hN8 hJ hko hkd hI hl hn
    · refine lv_tableIn (x := 40) (tgt := 1379) hx hb dL_law_44 (by decide) (by decide) rfl (by decide) ?_
      exact k_isSound l hnt C hk4 hN8 hJ hko hkd hI hl hn
set_option maxHeartbeats 1000000 in
/-- the loop, from the k-th pass on -/
theorem lw_loop (l : Launch) (hnt : l.stackTraces = false) {p : Program} {e : Env} {s : State} {m : MethodId} {below : List Frame} {meth : Method} {c : Code} {Q : State → Prop} {D : va_G} {tc : Nat → ClassId} {z0 b N : Nat} {xs : Nat → Int32} {px pm po pd rq co sp aC aT : Nat} (C : lwC p s m meth c b N xs D tc z0) (hN8 : N ≤ 2048)
    (hend : ∀ (d : Drawn) (H : Heap) (locs : List Loc) (ls : Array Slot) (k n : Nat), s.drawn.sameBut d lw_cs → va_S (zA [] [] s.heap.size) s.heap H locs → k ≤ 841393 → n ≤ 6571924 → W p l e room_1 (s.setDrawn d) m #[Value.ref b] below meth c H locs k n Q (F0 m 1398 ls [])) :
    ∀ (n k t : Nat) (d : Drawn) (L : List Nat) (κ : Nat → Nat) (g : Nat → Nat → Value) (H : Heap) (locs : List Loc) (ls : Array Slot), N < 4 * k + 4 * n → 4 * k ≤ N → s.drawn.sameBut d lw_cs → zJ κ g z0 px pm rq co sp aC aT t → κ po = 29 → κ pd = 30 → zI D tc (zA [] [] s.heap.size) s.heap [] L κ g H locs →
      lv_has ls 9 [(0, .ref b), (1, .ref px), (2, .ref pm), (3, .ref po), (4, .ref pd), (5, .int (nI (4 * k)))] → W p l e room_1 (s.setDrawn d) m #[Value.ref b] below meth c H locs (60 + 20 * k + 37 * t) (400 + 120 * k + 162 * t) Q (F0 m 28 ls []) := by
  intro n
  induction n with
  | zero => intro k t d L κ g H locs ls h1 h2; omega
  | succ n ih =>
    intro k t d L κ g H locs ls h1 h2 hd hJ hko hkd hI hl
    have htb9 : t ≤ 9999 := hJ.1.2.2.1.2
    refine lw_body (s := s.setDrawn d) l hnt (C.dr d) hN8 (by omega) hJ hko hkd hI hl (hend d _ _ _ _ _ hd hI.2.1 (by omega) (by omega)) (fun hk4 => ?_)
    intro d2 L κ g H locs ls t2 hd2 hJ hko hkd hI hl
    show W p l e room_1 (s.setDrawn d2) m #[Value.ref b] below meth c H locs (60 + 20 * (k + 1) + 37 * t2) (400 + 120 * (k + 1) + 162 * t2) Q (F0 m 1392 ls [])
    obtain ⟨hx, hb, hml, hown, hts, hK, hE, hX, hbl⟩ := C.dr d2
    refine lv_iinc (v := nI (4 * (k + 1))) (lv' := [(5, .int (nI (4 * (k + 1)))), (0, .ref b), (1, .ref px), (2, .ref pm), (3, .ref po), (4, .ref pd)]) hx hb dL_law_1392 hl (k := 5) rfl ((nI_add (4 * k) 4).trans (by rw [show 4 * k + 4 = 4 * (k + 1) by omega])) (by decide) rfl (fun ls hl => ?_)
    refine lv_goto (tgt := 28) hx hb dL_law_1395 (by decide) ?_
    exact ih (k + 1) t2 d2 L κ g H locs ls (by omega) (by omega) (hd.trans hd2) hJ hko hkd hI (lv_sub hl [1, 2, 3, 4, 5, 0] rfl)
