set_option maxHeartbeats 4000000 in
set_option maxRecDepth 100000 in
/-- the fresh objects, into the pool -/
theorem lw_pool1 {D : va_G} {tc : Nat → ClassId} {A : Nat → Prop} {H0 : Heap} {L : List Nat} {κ : Nat → Nat} {g : Nat → Nat → Value} {H : Heap} {locs : List Loc} {z0 po pd px yr yC yT yk ys yb yq yA yP yh yS yd y0 yha y1 yda y2 yAa yPa ySa pm lc lt pv pg : Nat} (hko : κ po = 29) (hkd : κ pd = 30) (hI : zI D tc A H0 [(px, .inr (10, [.ref yr, .ref yC, .ref yT, .ref yk, .ref ys, .ref yq, .ref yP, .ref yS, .int 0, .long 0])), (yr, .inl (tc 4, 3, .inr (.inr (.inr (.inr (va_up (va_up (va_up (fun _ => none) (0 : Int32).toNatClampNeg (some y0)) (1 : Int32).toNatClampNeg (some y1)) (2 : Int32).toNatClampNeg (some y2))))))), (yC, .inl (tc 3, 6, .inr (.inr (.inr (.inr (fun _ => none)))))), (yT, .inl (tc 5, 8, .inr (.inr (.inr (.inr (fun _ => none)))))), (yk, .inr (4, [.ref yb, .ref yA, .long 0, .int 0, .int 0])), (ys, .inr (8, [.int 200, .int 5000, .int 600, .long 0, .long 0, .int 0, .long 0, .long 0, .long 0, .long 0])), (yb, .inr (3, [.int 200, .ref yh, .ref yd])), (yq, .inr (7, [.int 0, .int 0, .int 0, .int 0, .int 0, .int 0, .int 45])), (yA, .inr (2, [.ref yAa, .int 1])), (yP, .inr (2, [.ref yPa, .int 0])), (yh, .inr (2, [.ref yha, .int 1])), (yS, .inr (2, [.ref ySa, .int 0])), (yd, .inr (2, [.ref yda, .int 1])), (y0, .inr (6, [.int 500, .int 500])), (yha, .inl (tc 1, 16, .inr (.inl (vp_updL (fun _ => 0) (0 : Int32).toNatClampNeg 4000)))), (y1, .inr (6, [.int 500, .int 500])), (yda, .inl (tc 1, 16, .inr (.inl (vp_updL (fun _ => 0) (0 : Int32).toNatClampNeg 20)))), (y2, .inr (6, [.int 500, .int 500])), (yAa, .inl (tc 1, 16, .inr (.inl (vp_updL (fun _ => 0) (0 : Int32).toNatClampNeg 20)))), (yPa, .inl (tc 1, 16, .inr (.inl (fun _ => 0)))), (ySa, .inl (tc 1, 16, .inr (.inl (fun _ => 0)))), (pm, .inr (13, [.ref lc, .ref lt, .ref pv, .ref pg, .int 0, .int 4000, .int 0, .int 200, .int 5000, .int 600, .int 0, .int 0, .int 0, .int 0, .int 0, .int 0, .int 0, .int 0, .int 0, .long 0, .long 0, .long 0, .long 0, .long 0, .long 0, .int 0, .int 45])), (lc, .inr (1, [.int 0, .ref z0, .int 0])), (lt, .inr (1, [.int 0, .ref z0, .int 0])), (pv, .inl (tc 0, 3, .inl (upd (upd (upd (fun _ => 0) (0 : Int32).toNatClampNeg 500) (1 : Int32).toNatClampNeg 500) (2 : Int32).toNatClampNeg 500))), (pg, .inl (tc 0, 6, .inl (fun _ => 0)))] L κ g H locs) :
    ∃ (L2 : List Nat) (κ2 : Nat → Nat) (g2 : Nat → Nat → Value), zExt κ g κ2 g2 ∧ κ2 po = 29 ∧ κ2 pd = 30 ∧ zJ κ2 g2 z0 px pm yq yk ys yC yT 0 ∧ ((∀ j, g2 yC j = .null) ∧ ∀ j, g2 yT j = .null) ∧ zI D tc A H0 [] L2 κ2 g2 H locs := by
  have hxt : zExt κ g κ g := zExt.rf
  replace hI : zI D tc A H0 [(px, .inr (10, [.ref yr, .ref yC, .ref yT, .ref yk, .ref ys, .ref yq, .ref yP, .ref yS, .int 0, .long 0])), (yr, .inl (tc 4, 3, .inr (.inr (.inr (.inr (va_up (va_up (va_up (fun _ => none) (0 : Int32).toNatClampNeg (some y0)) (1 : Int32).toNatClampNeg (some y1)) (2 : Int32).toNatClampNeg (some y2))))))), (yC, .inl (tc 3, 6, .inr (.inr (.inr (.inr (fun _ => none)))))), (yT, .inl (tc 5, 8, .inr (.inr (.inr (.inr (fun _ => none)))))), (yk, .inr (4, [.ref yb, .ref yA, .long 0, .int 0, .int 0])), (ys, .inr (8, [.int 200, .int 5000, .int 600, .long 0, .long 0, .int 0, .long 0, .long 0, .long 0, .long 0])), (yb, .inr (3, [.int 200, .ref yh, .ref yd])), (yq, .inr (7, [.int 0, .int 0, .int 0, .int 0, .int 0, .int 0, .int 45])), (yA, .inr (2, [.ref yAa, .int 1])), (yP, .inr (2, [.ref yPa, .int 0])), (yh, .inr (2, [.ref yha, .int 1])), (yS, .inr (2, [.ref ySa, .int 0])), (yd, .inr (2, [.ref yda, .int 1])), (y0, .inr (6, [.int 500, .int 500])), (yha, .inl (tc 1, 16, .inr (.inl (vp_updL (fun _ => 0) (0 : Int32).toNatClampNeg 4000)))), (y1, .inr (6, [.int 500, .int 500])), (yda, .inl (tc 1, 16, .inr (.inl (vp_updL (fun _ => 0) (0 : Int32).toNatClampNeg 20)))), (y2, .inr (6, [.int 500, .int 500])), (yAa, .inl (tc 1, 16, .inr (.inl (vp_updL (fun _ => 0) (0 : Int32).toNatClampNeg 20)))), (yPa, .inl (tc 1, 16, .inr (.inl (fun _ => 0)))), (ySa, .inl (tc 1, 16, .inr (.inl (fun _ => 0)))), (pm, .inr (13, [.ref lc, .ref lt, .ref pv, .ref pg, .int 0, .int 4000, .int 0, .int 200, .int 5000, .int 600, .int 0, .int 0, .int 0, .int 0, .int 0, .int 0, .int 0, .int 0, .int 0, .long 0, .long 0, .long 0, .long 0, .long 0, .long 0, .int 0, .int 45])), (lc, .inr (1, [.int 0, .ref z0, .int 0])), (lt, .inr (1, [.int 0, .ref z0, .int 0])), (pv, .inl (tc 0, 3, .inl (upd (upd (upd (fun _ => 0) (0 : Int32).toNatClampNeg 500) (1 : Int32).toNatClampNeg 500) (2 : Int32).toNatClampNeg 500))), (pg, .inl (tc 0, 6, .inl (fun _ => 0)))] L κ g H locs := hI
  replace hI := z_part (X' := [(y0, .inr (6, [.int 500, .int 500])), (px, .inr (10, [.ref yr, .ref yC, .ref yT, .ref yk, .ref ys, .ref yq, .ref yP, .ref yS, .int 0, .long 0])), (yr, .inl (tc 4, 3, .inr (.inr (.inr (.inr (va_up (va_up (va_up (fun _ => none) (0 : Int32).toNatClampNeg (some y0)) (1 : Int32).toNatClampNeg (some y1)) (2 : Int32).toNatClampNeg (some y2))))))), (yC, .inl (tc 3, 6, .inr (.inr (.inr (.inr (fun _ => none)))))), (yT, .inl (tc 5, 8, .inr (.inr (.inr (.inr (fun _ => none)))))), (yk, .inr (4, [.ref yb, .ref yA, .long 0, .int 0, .int 0])), (ys, .inr (8, [.int 200, .int 5000, .int 600, .long 0, .long 0, .int 0, .long 0, .long 0, .long 0, .long 0])), (yb, .inr (3, [.int 200, .ref yh, .ref yd])), (yq, .inr (7, [.int 0, .int 0, .int 0, .int 0, .int 0, .int 0, .int 45])), (yA, .inr (2, [.ref yAa, .int 1])), (yP, .inr (2, [.ref yPa, .int 0])), (yh, .inr (2, [.ref yha, .int 1])), (yS, .inr (2, [.ref ySa, .int 0])), (yd, .inr (2, [.ref yda, .int 1])), (yha, .inl (tc 1, 16, .inr (.inl (vp_updL (fun _ => 0) (0 : Int32).toNatClampNeg 4000)))), (y1, .inr (6, [.int 500, .int 500])), (yda, .inl (tc 1, 16, .inr (.inl (vp_updL (fun _ => 0) (0 : Int32).toNatClampNeg 20)))), (y2, .inr (6, [.int 500, .int 500])), (yAa, .inl (tc 1, 16, .inr (.inl (vp_updL (fun _ => 0) (0 : Int32).toNatClampNeg 20)))), (yPa, .inl (tc 1, 16, .inr (.inl (fun _ => 0)))), (ySa, .inl (tc 1, 16, .inr (.inl (fun _ => 0)))), (pm, .inr (13, [.ref lc, .ref lt, .ref pv, .ref pg, .int 0, .int 4000, .int 0, .int 200, .int 5000, .int 600, .int 0, .int 0, .int 0, .int 0, .int 0, .int 0, .int 0, .int 0, .int 0, .long 0, .long 0, .long 0, .long 0, .long 0, .long 0, .int 0, .int 45])), (lc, .inr (1, [.int 0, .ref z0, .int 0])), (lt, .inr (1, [.int 0, .ref z0, .int 0])), (pv, .inl (tc 0, 3, .inl (upd (upd (upd (fun _ => 0) (0 : Int32).toNatClampNeg 500) (1 : Int32).toNatClampNeg 500) (2 : Int32).toNatClampNeg 500))), (pg, .inl (tc 0, 6, .inl (fun _ => 0)))]) [13, 0, 1, 2, 3, 4, 5, 6, 7, 8, 9, 10, 11, 12, 14, 15, 16, 17, 18, 19, 20, 21, 22, 23, 24, 25] rfl rfl hI
  obtain ⟨L1, κ1, g1, hx2, hk1, hv2, hI9⟩ := z_poolG (k := 6) (fun _ => .null) hI (by decide) (fun κ9 g9 hκ9 hκ8 hg9 => zc_O rfl (zvs_cons ⟨_, rfl⟩ rfl (zvs_cons ⟨_, rfl⟩ rfl zvs_nil)))
  clear hI
  have hI := hI9
  clear hI9
  replace hko := hx2.k hko (by decide)
  replace hkd := hx2.k hkd (by decide)
  replace hxt := hxt.tr hx2
  clear hx2
  replace hI := z_part (X' := [(y1, .inr (6, [.int 500, .int 500])), (px, .inr (10, [.ref yr, .ref yC, .ref yT, .ref yk, .ref ys, .ref yq, .ref yP, .ref yS, .int 0, .long 0])), (yr, .inl (tc 4, 3, .inr (.inr (.inr (.inr (va_up (va_up (va_up (fun _ => none) (0 : Int32).toNatClampNeg (some y0)) (1 : Int32).toNatClampNeg (some y1)) (2 : Int32).toNatClampNeg (some y2))))))), (yC, .inl (tc 3, 6, .inr (.inr (.inr (.inr (fun _ => none)))))), (yT, .inl (tc 5, 8, .inr (.inr (.inr (.inr (fun _ => none)))))), (yk, .inr (4, [.ref yb, .ref yA, .long 0, .int 0, .int 0])), (ys, .inr (8, [.int 200, .int 5000, .int 600, .long 0, .long 0, .int 0, .long 0, .long 0, .long 0, .long 0])), (yb, .inr (3, [.int 200, .ref yh, .ref yd])), (yq, .inr (7, [.int 0, .int 0, .int 0, .int 0, .int 0, .int 0, .int 45])), (yA, .inr (2, [.ref yAa, .int 1])), (yP, .inr (2, [.ref yPa, .int 0])), (yh, .inr (2, [.ref yha, .int 1])), (yS, .inr (2, [.ref ySa, .int 0])), (yd, .inr (2, [.ref yda, .int 1])), (yha, .inl (tc 1, 16, .inr (.inl (vp_updL (fun _ => 0) (0 : Int32).toNatClampNeg 4000)))), (yda, .inl (tc 1, 16, .inr (.inl (vp_updL (fun _ => 0) (0 : Int32).toNatClampNeg 20)))), (y2, .inr (6, [.int 500, .int 500])), (yAa, .inl (tc 1, 16, .inr (.inl (vp_updL (fun _ => 0) (0 : Int32).toNatClampNeg 20)))), (yPa, .inl (tc 1, 16, .inr (.inl (fun _ => 0)))), (ySa, .inl (tc 1, 16, .inr (.inl (fun _ => 0)))), (pm, .inr (13, [.ref lc, .ref lt, .ref pv, .ref pg, .int 0, .int 4000, .int 0, .int 200, .int 5000, .int 600, .int 0, .int 0, .int 0, .int 0, .int 0, .int 0, .int 0, .int 0, .int 0, .long 0, .long 0, .long 0, .long 0, .long 0, .long 0, .int 0, .int 45])), (lc, .inr (1, [.int 0, .ref z0, .int 0])), (lt, .inr (1, [.int 0, .ref z0, .int 0])), (pv, .inl (tc 0, 3, .inl (upd (upd (upd (fun _ => 0) (0 : Int32).toNatClampNeg 500) (1 : Int32).toNatClampNeg 500) (2 : Int32).toNatClampNeg 500))), (pg, .inl (tc 0, 6, .inl (fun _ => 0)))]) [14, 0, 1, 2, 3, 4, 5, 6, 7, 8, 9, 10, 11, 12, 13, 15, 16, 17, 18, 19, 20, 21, 22, 23, 24] rfl rfl hI
  obtain ⟨L2, κ2, g2, hx2, hk3, hv4, hI9⟩ := z_poolG (k := 6) (fun _ => .null) hI (by decide) (fun κ9 g9 hκ9 hκ8 hg9 => zc_O rfl (zvs_cons ⟨_, rfl⟩ rfl (zvs_cons ⟨_, rfl⟩ rfl zvs_nil)))
  clear hI
  have hI := hI9
  clear hI9
  replace hko := hx2.k hko (by decide)
  replace hkd := hx2.k hkd (by decide)
  replace hk1 := hx2.k hk1 (by decide)
  replace hxt := hxt.tr hx2
  clear hx2
  replace hI := z_part (X' := [(y2, .inr (6, [.int 500, .int 500])), (px, .inr (10, [.ref yr, .ref yC, .ref yT, .ref yk, .ref ys, .ref yq, .ref yP, .ref yS, .int 0, .long 0])), (yr, .inl (tc 4, 3, .inr (.inr (.inr (.inr (va_up (va_up (va_up (fun _ => none) (0 : Int32).toNatClampNeg (some y0)) (1 : Int32).toNatClampNeg (some y1)) (2 : Int32).toNatClampNeg (some y2))))))), (yC, .inl (tc 3, 6, .inr (.inr (.inr (.inr (fun _ => none)))))), (yT, .inl (tc 5, 8, .inr (.inr (.inr (.inr (fun _ => none)))))), (yk, .inr (4, [.ref yb, .ref yA, .long 0, .int 0, .int 0])), (ys, .inr (8, [.int 200, .int 5000, .int 600, .long 0, .long 0, .int 0, .long 0, .long 0, .long 0, .long 0])), (yb, .inr (3, [.int 200, .ref yh, .ref yd])), (yq, .inr (7, [.int 0, .int 0, .int 0, .int 0, .int 0, .int 0, .int 45])), (yA, .inr (2, [.ref yAa, .int 1])), (yP, .inr (2, [.ref yPa, .int 0])), (yh, .inr (2, [.ref yha, .int 1])), (yS, .inr (2, [.ref ySa, .int 0])), (yd, .inr (2, [.ref yda, .int 1])), (yha, .inl (tc 1, 16, .inr (.inl (vp_updL (fun _ => 0) (0 : Int32).toNatClampNeg 4000)))), (yda, .inl (tc 1, 16, .inr (.inl (vp_updL (fun _ => 0) (0 : Int32).toNatClampNeg 20)))), (yAa, .inl (tc 1, 16, .inr (.inl (vp_updL (fun _ => 0) (0 : Int32).toNatClampNeg 20)))), (yPa, .inl (tc 1, 16, .inr (.inl (fun _ => 0)))), (ySa, .inl (tc 1, 16, .inr (.inl (fun _ => 0)))), (pm, .inr (13, [.ref lc, .ref lt, .ref pv, .ref pg, .int 0, .int 4000, .int 0, .int 200, .int 5000, .int 600, .int 0, .int 0, .int 0, .int 0, .int 0, .int 0, .int 0, .int 0, .int 0, .long 0, .long 0, .long 0, .long 0, .long 0, .long 0, .int 0, .int 45])), (lc, .inr (1, [.int 0, .ref z0, .int 0])), (lt, .inr (1, [.int 0, .ref z0, .int 0])), (pv, .inl (tc 0, 3, .inl (upd (upd (upd (fun _ => 0) (0 : Int32).toNatClampNeg 500) (1 : Int32).toNatClampNeg 500) (2 : Int32).toNatClampNeg 500))), (pg, .inl (tc 0, 6, .inl (fun _ => 0)))]) [15, 0, 1, 2, 3, 4, 5, 6, 7, 8, 9, 10, 11, 12, 13, 14, 16, 17, 18, 19, 20, 21, 22, 23] rfl rfl hI
  obtain ⟨L3, κ3, g3, hx2, hk5, hv6, hI9⟩ := z_poolG (k := 6) (fun _ => .null) hI (by decide) (fun κ9 g9 hκ9 hκ8 hg9 => zc_O rfl (zvs_cons ⟨_, rfl⟩ rfl (zvs_cons ⟨_, rfl⟩ rfl zvs_nil)))
  clear hI
  have hI := hI9
  clear hI9
  replace hko := hx2.k hko (by decide)
  replace hkd := hx2.k hkd (by decide)
  replace hk1 := hx2.k hk1 (by decide)
  replace hk3 := hx2.k hk3 (by decide)
  replace hxt := hxt.tr hx2
  clear hx2
  replace hI := z_part (X' := [(yr, .inl (tc 4, 3, .inr (.inr (.inr (.inr (va_up (va_up (va_up (fun _ => none) (0 : Int32).toNatClampNeg (some y0)) (1 : Int32).toNatClampNeg (some y1)) (2 : Int32).toNatClampNeg (some y2))))))), (px, .inr (10, [.ref yr, .ref yC, .ref yT, .ref yk, .ref ys, .ref yq, .ref yP, .ref yS, .int 0, .long 0])), (yC, .inl (tc 3, 6, .inr (.inr (.inr (.inr (fun _ => none)))))), (yT, .inl (tc 5, 8, .inr (.inr (.inr (.inr (fun _ => none)))))), (yk, .inr (4, [.ref yb, .ref yA, .long 0, .int 0, .int 0])), (ys, .inr (8, [.int 200, .int 5000, .int 600, .long 0, .long 0, .int 0, .long 0, .long 0, .long 0, .long 0])), (yb, .inr (3, [.int 200, .ref yh, .ref yd])), (yq, .inr (7, [.int 0, .int 0, .int 0, .int 0, .int 0, .int 0, .int 45])), (yA, .inr (2, [.ref yAa, .int 1])), (yP, .inr (2, [.ref yPa, .int 0])), (yh, .inr (2, [.ref yha, .int 1])), (yS, .inr (2, [.ref ySa, .int 0])), (yd, .inr (2, [.ref yda, .int 1])), (yha, .inl (tc 1, 16, .inr (.inl (vp_updL (fun _ => 0) (0 : Int32).toNatClampNeg 4000)))), (yda, .inl (tc 1, 16, .inr (.inl (vp_updL (fun _ => 0) (0 : Int32).toNatClampNeg 20)))), (yAa, .inl (tc 1, 16, .inr (.inl (vp_updL (fun _ => 0) (0 : Int32).toNatClampNeg 20)))), (yPa, .inl (tc 1, 16, .inr (.inl (fun _ => 0)))), (ySa, .inl (tc 1, 16, .inr (.inl (fun _ => 0)))), (pm, .inr (13, [.ref lc, .ref lt, .ref pv, .ref pg, .int 0, .int 4000, .int 0, .int 200, .int 5000, .int 600, .int 0, .int 0, .int 0, .int 0, .int 0, .int 0, .int 0, .int 0, .int 0, .long 0, .long 0, .long 0, .long 0, .long 0, .long 0, .int 0, .int 45])), (lc, .inr (1, [.int 0, .ref z0, .int 0])), (lt, .inr (1, [.int 0, .ref z0, .int 0])), (pv, .inl (tc 0, 3, .inl (upd (upd (upd (fun _ => 0) (0 : Int32).toNatClampNeg 500) (1 : Int32).toNatClampNeg 500) (2 : Int32).toNatClampNeg 500))), (pg, .inl (tc 0, 6, .inl (fun _ => 0)))]) [1, 0, 2, 3, 4, 5, 6, 7, 8, 9, 10, 11, 12, 13, 14, 15, 16, 17, 18, 19, 20, 21, 22] rfl rfl hI
  obtain ⟨L4, κ4, g4, hx2, hk7, hv8, hI9⟩ := z_poolG (k := 22) (fun _ => .null) hI (by decide) (fun κ9 g9 hκ9 hκ8 hg9 => Or.inr ⟨rfl, 4, 3, 4, (1, 6), fun j => va_rf ((va_up (va_up (va_up (fun _ => none) (0 : Int32).toNatClampNeg (some y0)) (1 : Int32).toNatClampNeg (some y1)) (2 : Int32).toNatClampNeg (some y2)) j), rfl, ⟨_, rfl, fun j hj => rfl⟩, fun j hj => by (rcases (show j = 0 ∨ j = 1 ∨ j = 2 by omega) with rfl | rfl | rfl) <;> first | exact ⟨y0, rfl, (hκ9 _ (by rw [hk1]; decide)).trans hk1⟩ | exact ⟨y1, rfl, (hκ9 _ (by rw [hk3]; decide)).trans hk3⟩ | exact ⟨y2, rfl, (hκ9 _ (by rw [hk5]; decide)).trans hk5⟩⟩)
  clear hI
  have hI := hI9
  clear hI9
  replace hko := hx2.k hko (by decide)
  replace hkd := hx2.k hkd (by decide)
  replace hk1 := hx2.k hk1 (by decide)
  replace hk3 := hx2.k hk3 (by decide)
  replace hk5 := hx2.k hk5 (by decide)
  replace hxt := hxt.tr hx2
  clear hx2
  replace hI := z_part (X' := [(yC, .inl (tc 3, 6, .inr (.inr (.inr (.inr (fun _ => none)))))), (px, .inr (10, [.ref yr, .ref yC, .ref yT, .ref yk, .ref ys, .ref yq, .ref yP, .ref yS, .int 0, .long 0])), (yT, .inl (tc 5, 8, .inr (.inr (.inr (.inr (fun _ => none)))))), (yk, .inr (4, [.ref yb, .ref yA, .long 0, .int 0, .int 0])), (ys, .inr (8, [.int 200, .int 5000, .int 600, .long 0, .long 0, .int 0, .long 0, .long 0, .long 0, .long 0])), (yb, .inr (3, [.int 200, .ref yh, .ref yd])), (yq, .inr (7, [.int 0, .int 0, .int 0, .int 0, .int 0, .int 0, .int 45])), (yA, .inr (2, [.ref yAa, .int 1])), (yP, .inr (2, [.ref yPa, .int 0])), (yh, .inr (2, [.ref yha, .int 1])), (yS, .inr (2, [.ref ySa, .int 0])), (yd, .inr (2, [.ref yda, .int 1])), (yha, .inl (tc 1, 16, .inr (.inl (vp_updL (fun _ => 0) (0 : Int32).toNatClampNeg 4000)))), (yda, .inl (tc 1, 16, .inr (.inl (vp_updL (fun _ => 0) (0 : Int32).toNatClampNeg 20)))), (yAa, .inl (tc 1, 16, .inr (.inl (vp_updL (fun _ => 0) (0 : Int32).toNatClampNeg 20)))), (yPa, .inl (tc 1, 16, .inr (.inl (fun _ => 0)))), (ySa, .inl (tc 1, 16, .inr (.inl (fun _ => 0)))), (pm, .inr (13, [.ref lc, .ref lt, .ref pv, .ref pg, .int 0, .int 4000, .int 0, .int 200, .int 5000, .int 600, .int 0, .int 0, .int 0, .int 0, .int 0, .int 0, .int 0, .int 0, .int 0, .long 0, .long 0, .long 0, .long 0, .long 0, .long 0, .int 0, .int 45])), (lc, .inr (1, [.int 0, .ref z0, .int 0])), (lt, .inr (1, [.int 0, .ref z0, .int 0])), (pv, .inl (tc 0, 3, .inl (upd (upd (upd (fun _ => 0) (0 : Int32).toNatClampNeg 500) (1 : Int32).toNatClampNeg 500) (2 : Int32).toNatClampNeg 500))), (pg, .inl (tc 0, 6, .inl (fun _ => 0)))]) [1, 0, 2, 3, 4, 5, 6, 7, 8, 9, 10, 11, 12, 13, 14, 15, 16, 17, 18, 19, 20, 21] rfl rfl hI
  obtain ⟨L5, κ5, g5, hx2, hk9, hv10, hI9⟩ := z_poolG (k := 23) (fun _ => .null) hI (by decide) (fun κ9 g9 hκ9 hκ8 hg9 => Or.inr ⟨rfl, 3, 6, 4, (12, 5), fun j => .null, rfl, ⟨_, rfl, fun j hj => rfl⟩, fun j hj => ⟨(hg9 j).symm, Or.inl rfl⟩⟩)
  clear hI
  have hI := hI9
  clear hI9
  replace hko := hx2.k hko (by decide)
  replace hkd := hx2.k hkd (by decide)
  replace hk1 := hx2.k hk1 (by decide)
  replace hk3 := hx2.k hk3 (by decide)
  replace hk5 := hx2.k hk5 (by decide)
  replace hk7 := hx2.k hk7 (by decide)
  replace hxt := hxt.tr hx2
  clear hx2
  replace hI := z_part (X' := [(yT, .inl (tc 5, 8, .inr (.inr (.inr (.inr (fun _ => none)))))), (px, .inr (10, [.ref yr, .ref yC, .ref yT, .ref yk, .ref ys, .ref yq, .ref yP, .ref yS, .int 0, .long 0])), (yk, .inr (4, [.ref yb, .ref yA, .long 0, .int 0, .int 0])), (ys, .inr (8, [.int 200, .int 5000, .int 600, .long 0, .long 0, .int 0, .long 0, .long 0, .long 0, .long 0])), (yb, .inr (3, [.int 200, .ref yh, .ref yd])), (yq, .inr (7, [.int 0, .int 0, .int 0, .int 0, .int 0, .int 0, .int 45])), (yA, .inr (2, [.ref yAa, .int 1])), (yP, .inr (2, [.ref yPa, .int 0])), (yh, .inr (2, [.ref yha, .int 1])), (yS, .inr (2, [.ref ySa, .int 0])), (yd, .inr (2, [.ref yda, .int 1])), (yha, .inl (tc 1, 16, .inr (.inl (vp_updL (fun _ => 0) (0 : Int32).toNatClampNeg 4000)))), (yda, .inl (tc 1, 16, .inr (.inl (vp_updL (fun _ => 0) (0 : Int32).toNatClampNeg 20)))), (yAa, .inl (tc 1, 16, .inr (.inl (vp_updL (fun _ => 0) (0 : Int32).toNatClampNeg 20)))), (yPa, .inl (tc 1, 16, .inr (.inl (fun _ => 0)))), (ySa, .inl (tc 1, 16, .inr (.inl (fun _ => 0)))), (pm, .inr (13, [.ref lc, .ref lt, .ref pv, .ref pg, .int 0, .int 4000, .int 0, .int 200, .int 5000, .int 600, .int 0, .int 0, .int 0, .int 0, .int 0, .int 0, .int 0, .int 0, .int 0, .long 0, .long 0, .long 0, .long 0, .long 0, .long 0, .int 0, .int 45])), (lc, .inr (1, [.int 0, .ref z0, .int 0])), (lt, .inr (1, [.int 0, .ref z0, .int 0])), (pv, .inl (tc 0, 3, .inl (upd (upd (upd (fun _ => 0) (0 : Int32).toNatClampNeg 500) (1 : Int32).toNatClampNeg 500) (2 : Int32).toNatClampNeg 500))), (pg, .inl (tc 0, 6, .inl (fun _ => 0)))]) [1, 0, 2, 3, 4, 5, 6, 7, 8, 9, 10, 11, 12, 13, 14, 15, 16, 17, 18, 19, 20] rfl rfl hI
  obtain ⟨L6, κ6, g6, hx2, hk11, hv12, hI9⟩ := z_poolG (k := 24) (fun _ => .null) hI (by decide) (fun κ9 g9 hκ9 hκ8 hg9 => Or.inr ⟨rfl, 5, 8, 4, (12, 9), fun j => .null, rfl, ⟨_, rfl, fun j hj => rfl⟩, fun j hj => ⟨(hg9 j).symm, Or.inl rfl⟩⟩)
  clear hI
  have hI := hI9
  clear hI9
  replace hv10 := fun j => hx2.g hk9 (by decide) (hv10 j)
  replace hko := hx2.k hko (by decide)
  replace hkd := hx2.k hkd (by decide)
  replace hk1 := hx2.k hk1 (by decide)
  replace hk3 := hx2.k hk3 (by decide)
  replace hk5 := hx2.k hk5 (by decide)
  replace hk7 := hx2.k hk7 (by decide)
  replace hk9 := hx2.k hk9 (by decide)
  replace hxt := hxt.tr hx2
  clear hx2
  replace hI := z_part (X' := [(yha, .inl (tc 1, 16, .inr (.inl (vp_updL (fun _ => 0) (0 : Int32).toNatClampNeg 4000)))), (px, .inr (10, [.ref yr, .ref yC, .ref yT, .ref yk, .ref ys, .ref yq, .ref yP, .ref yS, .int 0, .long 0])), (yk, .inr (4, [.ref yb, .ref yA, .long 0, .int 0, .int 0])), (ys, .inr (8, [.int 200, .int 5000, .int 600, .long 0, .long 0, .int 0, .long 0, .long 0, .long 0, .long 0])), (yb, .inr (3, [.int 200, .ref yh, .ref yd])), (yq, .inr (7, [.int 0, .int 0, .int 0, .int 0, .int 0, .int 0, .int 45])), (yA, .inr (2, [.ref yAa, .int 1])), (yP, .inr (2, [.ref yPa, .int 0])), (yh, .inr (2, [.ref yha, .int 1])), (yS, .inr (2, [.ref ySa, .int 0])), (yd, .inr (2, [.ref yda, .int 1])), (yda, .inl (tc 1, 16, .inr (.inl (vp_updL (fun _ => 0) (0 : Int32).toNatClampNeg 20)))), (yAa, .inl (tc 1, 16, .inr (.inl (vp_updL (fun _ => 0) (0 : Int32).toNatClampNeg 20)))), (yPa, .inl (tc 1, 16, .inr (.inl (fun _ => 0)))), (ySa, .inl (tc 1, 16, .inr (.inl (fun _ => 0)))), (pm, .inr (13, [.ref lc, .ref lt, .ref pv, .ref pg, .int 0, .int 4000, .int 0, .int 200, .int 5000, .int 600, .int 0, .int 0, .int 0, .int 0, .int 0, .int 0, .int 0, .int 0, .int 0, .long 0, .long 0, .long 0, .long 0, .long 0, .long 0, .int 0, .int 45])), (lc, .inr (1, [.int 0, .ref z0, .int 0])), (lt, .inr (1, [.int 0, .ref z0, .int 0])), (pv, .inl (tc 0, 3, .inl (upd (upd (upd (fun _ => 0) (0 : Int32).toNatClampNeg 500) (1 : Int32).toNatClampNeg 500) (2 : Int32).toNatClampNeg 500))), (pg, .inl (tc 0, 6, .inl (fun _ => 0)))]) [10, 0, 1, 2, 3, 4, 5, 6, 7, 8, 9, 11, 12, 13, 14, 15, 16, 17, 18, 19] rfl rfl hI
  obtain ⟨L7, κ7, g7, hx2, hk13, hv14, hI9⟩ := z_poolG (k := 21) (fun _ => .null) hI (by decide) (fun κ9 g9 hκ9 hκ8 hg9 => Or.inr ⟨rfl, 1, 16, 1, (3, 0), fun j => .long ((vp_updL (fun _ => 0) (0 : Int32).toNatClampNeg 4000) j), rfl, ⟨_, rfl, fun j hj => rfl⟩, fun j hj => ⟨_, rfl⟩⟩)
  clear hI
  have hI := hI9
  clear hI9
  replace hv10 := fun j => hx2.g hk9 (by decide) (hv10 j)
  replace hv12 := fun j => hx2.g hk11 (by decide) (hv12 j)
  replace hko := hx2.k hko (by decide)
  replace hkd := hx2.k hkd (by decide)
  replace hk1 := hx2.k hk1 (by decide)
  replace hk3 := hx2.k hk3 (by decide)
  replace hk5 := hx2.k hk5 (by decide)
  replace hk7 := hx2.k hk7 (by decide)
  replace hk9 := hx2.k hk9 (by decide)
  replace hk11 := hx2.k hk11 (by decide)
  replace hxt := hxt.tr hx2
  clear hx2
  replace hI := z_part (X' := [(yda, .inl (tc 1, 16, .inr (.inl (vp_updL (fun _ => 0) (0 : Int32).toNatClampNeg 20)))), (px, .inr (10, [.ref yr, .ref yC, .ref yT, .ref yk, .ref ys, .ref yq, .ref yP, .ref yS, .int 0, .long 0])), (yk, .inr (4, [.ref yb, .ref yA, .long 0, .int 0, .int 0])), (ys, .inr (8, [.int 200, .int 5000, .int 600, .long 0, .long 0, .int 0, .long 0, .long 0, .long 0, .long 0])), (yb, .inr (3, [.int 200, .ref yh, .ref yd])), (yq, .inr (7, [.int 0, .int 0, .int 0, .int 0, .int 0, .int 0, .int 45])), (yA, .inr (2, [.ref yAa, .int 1])), (yP, .inr (2, [.ref yPa, .int 0])), (yh, .inr (2, [.ref yha, .int 1])), (yS, .inr (2, [.ref ySa, .int 0])), (yd, .inr (2, [.ref yda, .int 1])), (yAa, .inl (tc 1, 16, .inr (.inl (vp_updL (fun _ => 0) (0 : Int32).toNatClampNeg 20)))), (yPa, .inl (tc 1, 16, .inr (.inl (fun _ => 0)))), (ySa, .inl (tc 1, 16, .inr (.inl (fun _ => 0)))), (pm, .inr (13, [.ref lc, .ref lt, .ref pv, .ref pg, .int 0, .int 4000, .int 0, .int 200, .int 5000, .int 600, .int 0, .int 0, .int 0, .int 0, .int 0, .int 0, .int 0, .int 0, .int 0, .long 0, .long 0, .long 0, .long 0, .long 0, .long 0, .int 0, .int 45])), (lc, .inr (1, [.int 0, .ref z0, .int 0])), (lt, .inr (1, [.int 0, .ref z0, .int 0])), (pv, .inl (tc 0, 3, .inl (upd (upd (upd (fun _ => 0) (0 : Int32).toNatClampNeg 500) (1 : Int32).toNatClampNeg 500) (2 : Int32).toNatClampNeg 500))), (pg, .inl (tc 0, 6, .inl (fun _ => 0)))]) [10, 0, 1, 2, 3, 4, 5, 6, 7, 8, 9, 11, 12, 13, 14, 15, 16, 17, 18] rfl rfl hI
  obtain ⟨L8, κ8, g8, hx2, hk15, hv16, hI9⟩ := z_poolG (k := 21) (fun _ => .null) hI (by decide) (fun κ9 g9 hκ9 hκ8 hg9 => Or.inr ⟨rfl, 1, 16, 1, (3, 0), fun j => .long ((vp_updL (fun _ => 0) (0 : Int32).toNatClampNeg 20) j), rfl, ⟨_, rfl, fun j hj => rfl⟩, fun j hj => ⟨_, rfl⟩⟩)
  clear hI
  have hI := hI9
  clear hI9
  replace hv10 := fun j => hx2.g hk9 (by decide) (hv10 j)
  replace hv12 := fun j => hx2.g hk11 (by decide) (hv12 j)
  replace hko := hx2.k hko (by decide)
  replace hkd := hx2.k hkd (by decide)
  replace hk1 := hx2.k hk1 (by decide)
  replace hk3 := hx2.k hk3 (by decide)
  replace hk5 := hx2.k hk5 (by decide)
  replace hk7 := hx2.k hk7 (by decide)
  replace hk9 := hx2.k hk9 (by decide)
  replace hk11 := hx2.k hk11 (by decide)
  replace hk13 := hx2.k hk13 (by decide)
  replace hxt := hxt.tr hx2
  clear hx2
  replace hI := z_part (X' := [(yAa, .inl (tc 1, 16, .inr (.inl (vp_updL (fun _ => 0) (0 : Int32).toNatClampNeg 20)))), (px, .inr (10, [.ref yr, .ref yC, .ref yT, .ref yk, .ref ys, .ref yq, .ref yP, .ref yS, .int 0, .long 0])), (yk, .inr (4, [.ref yb, .ref yA, .long 0, .int 0, .int 0])), (ys, .inr (8, [.int 200, .int 5000, .int 600, .long 0, .long 0, .int 0, .long 0, .long 0, .long 0, .long 0])), (yb, .inr (3, [.int 200, .ref yh, .ref yd])), (yq, .inr (7, [.int 0, .int 0, .int 0, .int 0, .int 0, .int 0, .int 45])), (yA, .inr (2, [.ref yAa, .int 1])), (yP, .inr (2, [.ref yPa, .int 0])), (yh, .inr (2, [.ref yha, .int 1])), (yS, .inr (2, [.ref ySa, .int 0])), (yd, .inr (2, [.ref yda, .int 1])), (yPa, .inl (tc 1, 16, .inr (.inl (fun _ => 0)))), (ySa, .inl (tc 1, 16, .inr (.inl (fun _ => 0)))), (pm, .inr (13, [.ref lc, .ref lt, .ref pv, .ref pg, .int 0, .int 4000, .int 0, .int 200, .int 5000, .int 600, .int 0, .int 0, .int 0, .int 0, .int 0, .int 0, .int 0, .int 0, .int 0, .long 0, .long 0, .long 0, .long 0, .long 0, .long 0, .int 0, .int 45])), (lc, .inr (1, [.int 0, .ref z0, .int 0])), (lt, .inr (1, [.int 0, .ref z0, .int 0])), (pv, .inl (tc 0, 3, .inl (upd (upd (upd (fun _ => 0) (0 : Int32).toNatClampNeg 500) (1 : Int32).toNatClampNeg 500) (2 : Int32).toNatClampNeg 500))), (pg, .inl (tc 0, 6, .inl (fun _ => 0)))]) [10, 0, 1, 2, 3, 4, 5, 6, 7, 8, 9, 11, 12, 13, 14, 15, 16, 17] rfl rfl hI
  obtain ⟨L9, κ9, g9, hx2, hk17, hv18, hI9⟩ := z_poolG (k := 21) (fun _ => .null) hI (by decide) (fun κ9 g9 hκ9 hκ8 hg9 => Or.inr ⟨rfl, 1, 16, 1, (3, 0), fun j => .long ((vp_updL (fun _ => 0) (0 : Int32).toNatClampNeg 20) j), rfl, ⟨_, rfl, fun j hj => rfl⟩, fun j hj => ⟨_, rfl⟩⟩)
  clear hI
  have hI := hI9
  clear hI9
  replace hv10 := fun j => hx2.g hk9 (by decide) (hv10 j)
  replace hv12 := fun j => hx2.g hk11 (by decide) (hv12 j)
  replace hko := hx2.k hko (by decide)
  replace hkd := hx2.k hkd (by decide)
  replace hk1 := hx2.k hk1 (by decide)
  replace hk3 := hx2.k hk3 (by decide)
  replace hk5 := hx2.k hk5 (by decide)
  replace hk7 := hx2.k hk7 (by decide)
  replace hk9 := hx2.k hk9 (by decide)
  replace hk11 := hx2.k hk11 (by decide)
  replace hk13 := hx2.k hk13 (by decide)
  replace hk15 := hx2.k hk15 (by decide)
  replace hxt := hxt.tr hx2
  clear hx2
  replace hI := z_part (X' := [(yPa, .inl (tc 1, 16, .inr (.inl (fun _ => 0)))), (px, .inr (10, [.ref yr, .ref yC, .ref yT, .ref yk, .ref ys, .ref yq, .ref yP, .ref yS, .int 0, .long 0])), (yk, .inr (4, [.ref yb, .ref yA, .long 0, .int 0, .int 0])), (ys, .inr (8, [.int 200, .int 5000, .int 600, .long 0, .long 0, .int 0, .long 0, .long 0, .long 0, .long 0])), (yb, .inr (3, [.int 200, .ref yh, .ref yd])), (yq, .inr (7, [.int 0, .int 0, .int 0, .int 0, .int 0, .int 0, .int 45])), (yA, .inr (2, [.ref yAa, .int 1])), (yP, .inr (2, [.ref yPa, .int 0])), (yh, .inr (2, [.ref yha, .int 1])), (yS, .inr (2, [.ref ySa, .int 0])), (yd, .inr (2, [.ref yda, .int 1])), (ySa, .inl (tc 1, 16, .inr (.inl (fun _ => 0)))), (pm, .inr (13, [.ref lc, .ref lt, .ref pv, .ref pg, .int 0, .int 4000, .int 0, .int 200, .int 5000, .int 600, .int 0, .int 0, .int 0, .int 0, .int 0, .int 0, .int 0, .int 0, .int 0, .long 0, .long 0, .long 0, .long 0, .long 0, .long 0, .int 0, .int 45])), (lc, .inr (1, [.int 0, .ref z0, .int 0])), (lt, .inr (1, [.int 0, .ref z0, .int 0])), (pv, .inl (tc 0, 3, .inl (upd (upd (upd (fun _ => 0) (0 : Int32).toNatClampNeg 500) (1 : Int32).toNatClampNeg 500) (2 : Int32).toNatClampNeg 500))), (pg, .inl (tc 0, 6, .inl (fun _ => 0)))]) [10, 0, 1, 2, 3, 4, 5, 6, 7, 8, 9, 11, 12, 13, 14, 15, 16] rfl rfl hI
  obtain ⟨L10, κ10, g10, hx2, hk19, hv20, hI9⟩ := z_poolG (k := 21) (fun _ => .null) hI (by decide) (fun κ9 g9 hκ9 hκ8 hg9 => Or.inr ⟨rfl, 1, 16, 1, (3, 0), fun j => .long ((fun _ => 0) j), rfl, ⟨_, rfl, fun j hj => rfl⟩, fun j hj => ⟨_, rfl⟩⟩)
  clear hI
  have hI := hI9
  clear hI9
  replace hv10 := fun j => hx2.g hk9 (by decide) (hv10 j)
  replace hv12 := fun j => hx2.g hk11 (by decide) (hv12 j)
  replace hko := hx2.k hko (by decide)
  replace hkd := hx2.k hkd (by decide)
  replace hk1 := hx2.k hk1 (by decide)
  replace hk3 := hx2.k hk3 (by decide)
  replace hk5 := hx2.k hk5 (by decide)
  replace hk7 := hx2.k hk7 (by decide)
  replace hk9 := hx2.k hk9 (by decide)
  replace hk11 := hx2.k hk11 (by decide)
  replace hk13 := hx2.k hk13 (by decide)
  replace hk15 := hx2.k hk15 (by decide)
  replace hk17 := hx2.k hk17 (by decide)
  replace hxt := hxt.tr hx2
  clear hx2
  replace hI := z_part (X' := [(ySa, .inl (tc 1, 16, .inr (.inl (fun _ => 0)))), (px, .inr (10, [.ref yr, .ref yC, .ref yT, .ref yk, .ref ys, .ref yq, .ref yP, .ref yS, .int 0, .long 0])), (yk, .inr (4, [.ref yb, .ref yA, .long 0, .int 0, .int 0])), (ys, .inr (8, [.int 200, .int 5000, .int 600, .long 0, .long 0, .int 0, .long 0, .long 0, .long 0, .long 0])), (yb, .inr (3, [.int 200, .ref yh, .ref yd])), (yq, .inr (7, [.int 0, .int 0, .int 0, .int 0, .int 0, .int 0, .int 45])), (yA, .inr (2, [.ref yAa, .int 1])), (yP, .inr (2, [.ref yPa, .int 0])), (yh, .inr (2, [.ref yha, .int 1])), (yS, .inr (2, [.ref ySa, .int 0])), (yd, .inr (2, [.ref yda, .int 1])), (pm, .inr (13, [.ref lc, .ref lt, .ref pv, .ref pg, .int 0, .int 4000, .int 0, .int 200, .int 5000, .int 600, .int 0, .int 0, .int 0, .int 0, .int 0, .int 0, .int 0, .int 0, .int 0, .long 0, .long 0, .long 0, .long 0, .long 0, .long 0, .int 0, .int 45])), (lc, .inr (1, [.int 0, .ref z0, .int 0])), (lt, .inr (1, [.int 0, .ref z0, .int 0])), (pv, .inl (tc 0, 3, .inl (upd (upd (upd (fun _ => 0) (0 : Int32).toNatClampNeg 500) (1 : Int32).toNatClampNeg 500) (2 : Int32).toNatClampNeg 500))), (pg, .inl (tc 0, 6, .inl (fun _ => 0)))]) [10, 0, 1, 2, 3, 4, 5, 6, 7, 8, 9, 11, 12, 13, 14, 15] rfl rfl hI
  obtain ⟨L11, κ11, g11, hx2, hk21, hv22, hI9⟩ := z_poolG (k := 21) (fun _ => .null) hI (by decide) (fun κ9 g9 hκ9 hκ8 hg9 => Or.inr ⟨rfl, 1, 16, 1, (3, 0), fun j => .long ((fun _ => 0) j), rfl, ⟨_, rfl, fun j hj => rfl⟩, fun j hj => ⟨_, rfl⟩⟩)
  clear hI
  have hI := hI9
  clear hI9
  replace hv10 := fun j => hx2.g hk9 (by decide) (hv10 j)
  replace hv12 := fun j => hx2.g hk11 (by decide) (hv12 j)
  replace hko := hx2.k hko (by decide)
  replace hkd := hx2.k hkd (by decide)
  replace hk1 := hx2.k hk1 (by decide)
  replace hk3 := hx2.k hk3 (by decide)
  replace hk5 := hx2.k hk5 (by decide)
  replace hk7 := hx2.k hk7 (by decide)
  replace hk9 := hx2.k hk9 (by decide)
  replace hk11 := hx2.k hk11 (by decide)
  replace hk13 := hx2.k hk13 (by decide)
  replace hk15 := hx2.k hk15 (by decide)
  replace hk17 := hx2.k hk17 (by decide)
  replace hk19 := hx2.k hk19 (by decide)
  replace hxt := hxt.tr hx2
  clear hx2
  replace hI := z_part (X' := [(yh, .inr (2, [.ref yha, .int 1])), (px, .inr (10, [.ref yr, .ref yC, .ref yT, .ref yk, .ref ys, .ref yq, .ref yP, .ref yS, .int 0, .long 0])), (yk, .inr (4, [.ref yb, .ref yA, .long 0, .int 0, .int 0])), (ys, .inr (8, [.int 200, .int 5000, .int 600, .long 0, .long 0, .int 0, .long 0, .long 0, .long 0, .long 0])), (yb, .inr (3, [.int 200, .ref yh, .ref yd])), (yq, .inr (7, [.int 0, .int 0, .int 0, .int 0, .int 0, .int 0, .int 45])), (yA, .inr (2, [.ref yAa, .int 1])), (yP, .inr (2, [.ref yPa, .int 0])), (yS, .inr (2, [.ref ySa, .int 0])), (yd, .inr (2, [.ref yda, .int 1])), (pm, .inr (13, [.ref lc, .ref lt, .ref pv, .ref pg, .int 0, .int 4000, .int 0, .int 200, .int 5000, .int 600, .int 0, .int 0, .int 0, .int 0, .int 0, .int 0, .int 0, .int 0, .int 0, .long 0, .long 0, .long 0, .long 0, .long 0, .long 0, .int 0, .int 45])), (lc, .inr (1, [.int 0, .ref z0, .int 0])), (lt, .inr (1, [.int 0, .ref z0, .int 0])), (pv, .inl (tc 0, 3, .inl (upd (upd (upd (fun _ => 0) (0 : Int32).toNatClampNeg 500) (1 : Int32).toNatClampNeg 500) (2 : Int32).toNatClampNeg 500))), (pg, .inl (tc 0, 6, .inl (fun _ => 0)))]) [7, 0, 1, 2, 3, 4, 5, 6, 8, 9, 10, 11, 12, 13, 14] rfl rfl hI
  obtain ⟨L12, κ12, g12, hx2, hk23, hv24, hI9⟩ := z_poolG (k := 2) (fun _ => .null) hI (by decide) (fun κ9 g9 hκ9 hκ8 hg9 => zc_O rfl (zvs_cons ⟨_, rfl, (hκ9 _ (by rw [hk13]; decide)).trans hk13⟩ rfl (zvs_cons ⟨1, by decide, rfl⟩ rfl zvs_nil)))
  clear hI
  have hI := hI9
  clear hI9
  replace hv10 := fun j => hx2.g hk9 (by decide) (hv10 j)
  replace hv12 := fun j => hx2.g hk11 (by decide) (hv12 j)
  replace hko := hx2.k hko (by decide)
  replace hkd := hx2.k hkd (by decide)
  replace hk1 := hx2.k hk1 (by decide)
  replace hk3 := hx2.k hk3 (by decide)
  replace hk5 := hx2.k hk5 (by decide)
  replace hk7 := hx2.k hk7 (by decide)
  replace hk9 := hx2.k hk9 (by decide)
  replace hk11 := hx2.k hk11 (by decide)
  replace hk13 := hx2.k hk13 (by decide)
  replace hk15 := hx2.k hk15 (by decide)
  replace hk17 := hx2.k hk17 (by decide)
  replace hk19 := hx2.k hk19 (by decide)
  replace hk21 := hx2.k hk21 (by decide)
  replace hxt := hxt.tr hx2
  clear hx2
  replace hI := z_part (X' := [(yd, .inr (2, [.ref yda, .int 1])), (px, .inr (10, [.ref yr, .ref yC, .ref yT, .ref yk, .ref ys, .ref yq, .ref yP, .ref yS, .int 0, .long 0])), (yk, .inr (4, [.ref yb, .ref yA, .long 0, .int 0, .int 0])), (ys, .inr (8, [.int 200, .int 5000, .int 600, .long 0, .long 0, .int 0, .long 0, .long 0, .long 0, .long 0])), (yb, .inr (3, [.int 200, .ref yh, .ref yd])), (yq, .inr (7, [.int 0, .int 0, .int 0, .int 0, .int 0, .int 0, .int 45])), (yA, .inr (2, [.ref yAa, .int 1])), (yP, .inr (2, [.ref yPa, .int 0])), (yS, .inr (2, [.ref ySa, .int 0])), (pm, .inr (13, [.ref lc, .ref lt, .ref pv, .ref pg, .int 0, .int 4000, .int 0, .int 200, .int 5000, .int 600, .int 0, .int 0, .int 0, .int 0, .int 0, .int 0, .int 0, .int 0, .int 0, .long 0, .long 0, .long 0, .long 0, .long 0, .long 0, .int 0, .int 45])), (lc, .inr (1, [.int 0, .ref z0, .int 0])), (lt, .inr (1, [.int 0, .ref z0, .int 0])), (pv, .inl (tc 0, 3, .inl (upd (upd (upd (fun _ => 0) (0 : Int32).toNatClampNeg 500) (1 : Int32).toNatClampNeg 500) (2 : Int32).toNatClampNeg 500))), (pg, .inl (tc 0, 6, .inl (fun _ => 0)))]) [8, 0, 1, 2, 3, 4, 5, 6, 7, 9, 10, 11, 12, 13] rfl rfl hI
  obtain ⟨L13, κ13, g13, hx2, hk25, hv26, hI9⟩ := z_poolG (k := 2) (fun _ => .null) hI (by decide) (fun κ9 g9 hκ9 hκ8 hg9 => zc_O rfl (zvs_cons ⟨_, rfl, (hκ9 _ (by rw [hk15]; decide)).trans hk15⟩ rfl (zvs_cons ⟨1, by decide, rfl⟩ rfl zvs_nil)))
  clear hI
  have hI := hI9
  clear hI9
  replace hv10 := fun j => hx2.g hk9 (by decide) (hv10 j)
  replace hv12 := fun j => hx2.g hk11 (by decide) (hv12 j)
  replace hko := hx2.k hko (by decide)
  replace hkd := hx2.k hkd (by decide)
  replace hk1 := hx2.k hk1 (by decide)
  replace hk3 := hx2.k hk3 (by decide)
  replace hk5 := hx2.k hk5 (by decide)
  replace hk7 := hx2.k hk7 (by decide)
  replace hk9 := hx2.k hk9 (by decide)
  replace hk11 := hx2.k hk11 (by decide)
  replace hk13 := hx2.k hk13 (by decide)
  replace hk15 := hx2.k hk15 (by decide)
  replace hk17 := hx2.k hk17 (by decide)
  replace hk19 := hx2.k hk19 (by decide)
  replace hk21 := hx2.k hk21 (by decide)
  replace hk23 := hx2.k hk23 (by decide)
  replace hxt := hxt.tr hx2
  clear hx2
  replace hI := z_part (X' := [(yA, .inr (2, [.ref yAa, .int 1])), (px, .inr (10, [.ref yr, .ref yC, .ref yT, .ref yk, .ref ys, .ref yq, .ref yP, .ref yS, .int 0, .long 0])), (yk, .inr (4, [.ref yb, .ref yA, .long 0, .int 0, .int 0])), (ys, .inr (8, [.int 200, .int 5000, .int 600, .long 0, .long 0, .int 0, .long 0, .long 0, .long 0, .long 0])), (yb, .inr (3, [.int 200, .ref yh, .ref yd])), (yq, .inr (7, [.int 0, .int 0, .int 0, .int 0, .int 0, .int 0, .int 45])), (yP, .inr (2, [.ref yPa, .int 0])), (yS, .inr (2, [.ref ySa, .int 0])), (pm, .inr (13, [.ref lc, .ref lt, .ref pv, .ref pg, .int 0, .int 4000, .int 0, .int 200, .int 5000, .int 600, .int 0, .int 0, .int 0, .int 0, .int 0, .int 0, .int 0, .int 0, .int 0, .long 0, .long 0, .long 0, .long 0, .long 0, .long 0, .int 0, .int 45])), (lc, .inr (1, [.int 0, .ref z0, .int 0])), (lt, .inr (1, [.int 0, .ref z0, .int 0])), (pv, .inl (tc 0, 3, .inl (upd (upd (upd (fun _ => 0) (0 : Int32).toNatClampNeg 500) (1 : Int32).toNatClampNeg 500) (2 : Int32).toNatClampNeg 500))), (pg, .inl (tc 0, 6, .inl (fun _ => 0)))]) [5, 0, 1, 2, 3, 4, 6, 7, 8, 9, 10, 11, 12] rfl rfl hI
  obtain ⟨L14, κ14, g14, hx2, hk27, hv28, hI9⟩ := z_poolG (k := 2) (fun _ => .null) hI (by decide) (fun κ9 g9 hκ9 hκ8 hg9 => zc_O rfl (zvs_cons ⟨_, rfl, (hκ9 _ (by rw [hk17]; decide)).trans hk17⟩ rfl (zvs_cons ⟨1, by decide, rfl⟩ rfl zvs_nil)))
  clear hI
  have hI := hI9
  clear hI9
  replace hv10 := fun j => hx2.g hk9 (by decide) (hv10 j)
  replace hv12 := fun j => hx2.g hk11 (by decide) (hv12 j)
  replace hko := hx2.k hko (by decide)
  replace hkd := hx2.k hkd (by decide)
  replace hk1 := hx2.k hk1 (by decide)
  replace hk3 := hx2.k hk3 (by decide)
  replace hk5 := hx2.k hk5 (by decide)
  replace hk7 := hx2.k hk7 (by decide)
  replace hk9 := hx2.k hk9 (by decide)
  replace hk11 := hx2.k hk11 (by decide)
  replace hk13 := hx2.k hk13 (by decide)
  replace hk15 := hx2.k hk15 (by decide)
  replace hk17 := hx2.k hk17 (by decide)
  replace hk19 := hx2.k hk19 (by decide)
  replace hk21 := hx2.k hk21 (by decide)
  replace hk23 := hx2.k hk23 (by decide)
  replace hk25 := hx2.k hk25 (by decide)
  replace hxt := hxt.tr hx2
  clear hx2
  replace hI := z_part (X' := [(yP, .inr (2, [.ref yPa, .int 0])), (px, .inr (10, [.ref yr, .ref yC, .ref yT, .ref yk, .ref ys, .ref yq, .ref yP, .ref yS, .int 0, .long 0])), (yk, .inr (4, [.ref yb, .ref yA, .long 0, .int 0, .int 0])), (ys, .inr (8, [.int 200, .int 5000, .int 600, .long 0, .long 0, .int 0, .long 0, .long 0, .long 0, .long 0])), (yb, .inr (3, [.int 200, .ref yh, .ref yd])), (yq, .inr (7, [.int 0, .int 0, .int 0, .int 0, .int 0, .int 0, .int 45])), (yS, .inr (2, [.ref ySa, .int 0])), (pm, .inr (13, [.ref lc, .ref lt, .ref pv, .ref pg, .int 0, .int 4000, .int 0, .int 200, .int 5000, .int 600, .int 0, .int 0, .int 0, .int 0, .int 0, .int 0, .int 0, .int 0, .int 0, .long 0, .long 0, .long 0, .long 0, .long 0, .long 0, .int 0, .int 45])), (lc, .inr (1, [.int 0, .ref z0, .int 0])), (lt, .inr (1, [.int 0, .ref z0, .int 0])), (pv, .inl (tc 0, 3, .inl (upd (upd (upd (fun _ => 0) (0 : Int32).toNatClampNeg 500) (1 : Int32).toNatClampNeg 500) (2 : Int32).toNatClampNeg 500))), (pg, .inl (tc 0, 6, .inl (fun _ => 0)))]) [5, 0, 1, 2, 3, 4, 6, 7, 8, 9, 10, 11] rfl rfl hI
  obtain ⟨L15, κ15, g15, hx2, hk29, hv30, hI9⟩ := z_poolG (k := 2) (fun _ => .null) hI (by decide) (fun κ9 g9 hκ9 hκ8 hg9 => zc_O rfl (zvs_cons ⟨_, rfl, (hκ9 _ (by rw [hk19]; decide)).trans hk19⟩ rfl (zvs_cons ⟨0, by decide, rfl⟩ rfl zvs_nil)))
  clear hI
  have hI := hI9
  clear hI9
  replace hv10 := fun j => hx2.g hk9 (by decide) (hv10 j)
  replace hv12 := fun j => hx2.g hk11 (by decide) (hv12 j)
  replace hko := hx2.k hko (by decide)
  replace hkd := hx2.k hkd (by decide)
  replace hk1 := hx2.k hk1 (by decide)
  replace hk3 := hx2.k hk3 (by decide)
  replace hk5 := hx2.k hk5 (by decide)
  replace hk7 := hx2.k hk7 (by decide)
  replace hk9 := hx2.k hk9 (by decide)
  replace hk11 := hx2.k hk11 (by decide)
  replace hk13 := hx2.k hk13 (by decide)
  replace hk15 := hx2.k hk15 (by decide)
  replace hk17 := hx2.k hk17 (by decide)
  replace hk19 := hx2.k hk19 (by decide)
  replace hk21 := hx2.k hk21 (by decide)
  replace hk23 := hx2.k hk23 (by decide)
  replace hk25 := hx2.k hk25 (by decide)
  replace hk27 := hx2.k hk27 (by decide)
  replace hxt := hxt.tr hx2
  clear hx2
  replace hI := z_part (X' := [(yS, .inr (2, [.ref ySa, .int 0])), (px, .inr (10, [.ref yr, .ref yC, .ref yT, .ref yk, .ref ys, .ref yq, .ref yP, .ref yS, .int 0, .long 0])), (yk, .inr (4, [.ref yb, .ref yA, .long 0, .int 0, .int 0])), (ys, .inr (8, [.int 200, .int 5000, .int 600, .long 0, .long 0, .int 0, .long 0, .long 0, .long 0, .long 0])), (yb, .inr (3, [.int 200, .ref yh, .ref yd])), (yq, .inr (7, [.int 0, .int 0, .int 0, .int 0, .int 0, .int 0, .int 45])), (pm, .inr (13, [.ref lc, .ref lt, .ref pv, .ref pg, .int 0, .int 4000, .int 0, .int 200, .int 5000, .int 600, .int 0, .int 0, .int 0, .int 0, .int 0, .int 0, .int 0, .int 0, .int 0, .long 0, .long 0, .long 0, .long 0, .long 0, .long 0, .int 0, .int 45])), (lc, .inr (1, [.int 0, .ref z0, .int 0])), (lt, .inr (1, [.int 0, .ref z0, .int 0])), (pv, .inl (tc 0, 3, .inl (upd (upd (upd (fun _ => 0) (0 : Int32).toNatClampNeg 500) (1 : Int32).toNatClampNeg 500) (2 : Int32).toNatClampNeg 500))), (pg, .inl (tc 0, 6, .inl (fun _ => 0)))]) [5, 0, 1, 2, 3, 4, 6, 7, 8, 9, 10] rfl rfl hI
  obtain ⟨L16, κ16, g16, hx2, hk31, hv32, hI9⟩ := z_poolG (k := 2) (fun _ => .null) hI (by decide) (fun κ9 g9 hκ9 hκ8 hg9 => zc_O rfl (zvs_cons ⟨_, rfl, (hκ9 _ (by rw [hk21]; decide)).trans hk21⟩ rfl (zvs_cons ⟨0, by decide, rfl⟩ rfl zvs_nil)))
  clear hI
  have hI := hI9
  clear hI9
  replace hv10 := fun j => hx2.g hk9 (by decide) (hv10 j)
  replace hv12 := fun j => hx2.g hk11 (by decide) (hv12 j)
  replace hko := hx2.k hko (by decide)
  replace hkd := hx2.k hkd (by decide)
  replace hk1 := hx2.k hk1 (by decide)
  replace hk3 := hx2.k hk3 (by decide)
  replace hk5 := hx2.k hk5 (by decide)
  replace hk7 := hx2.k hk7 (by decide)
  replace hk9 := hx2.k hk9 (by decide)
  replace hk11 := hx2.k hk11 (by decide)
  replace hk13 := hx2.k hk13 (by decide)
  replace hk15 := hx2.k hk15 (by decide)
  replace hk17 := hx2.k hk17 (by decide)
  replace hk19 := hx2.k hk19 (by decide)
  replace hk21 := hx2.k hk21 (by decide)
  replace hk23 := hx2.k hk23 (by decide)
  replace hk25 := hx2.k hk25 (by decide)
  replace hk27 := hx2.k hk27 (by decide)
  replace hk29 := hx2.k hk29 (by decide)
  replace hxt := hxt.tr hx2
  clear hx2
  replace hI := z_part (X' := [(yb, .inr (3, [.int 200, .ref yh, .ref yd])), (px, .inr (10, [.ref yr, .ref yC, .ref yT, .ref yk, .ref ys, .ref yq, .ref yP, .ref yS, .int 0, .long 0])), (yk, .inr (4, [.ref yb, .ref yA, .long 0, .int 0, .int 0])), (ys, .inr (8, [.int 200, .int 5000, .int 600, .long 0, .long 0, .int 0, .long 0, .long 0, .long 0, .long 0])), (yq, .inr (7, [.int 0, .int 0, .int 0, .int 0, .int 0, .int 0, .int 45])), (pm, .inr (13, [.ref lc, .ref lt, .ref pv, .ref pg, .int 0, .int 4000, .int 0, .int 200, .int 5000, .int 600, .int 0, .int 0, .int 0, .int 0, .int 0, .int 0, .int 0, .int 0, .int 0, .long 0, .long 0, .long 0, .long 0, .long 0, .long 0, .int 0, .int 45])), (lc, .inr (1, [.int 0, .ref z0, .int 0])), (lt, .inr (1, [.int 0, .ref z0, .int 0])), (pv, .inl (tc 0, 3, .inl (upd (upd (upd (fun _ => 0) (0 : Int32).toNatClampNeg 500) (1 : Int32).toNatClampNeg 500) (2 : Int32).toNatClampNeg 500))), (pg, .inl (tc 0, 6, .inl (fun _ => 0)))]) [3, 0, 1, 2, 4, 5, 6, 7, 8, 9] rfl rfl hI
  obtain ⟨L17, κ17, g17, hx2, hk33, hv34, hI9⟩ := z_poolG (k := 3) (fun _ => .null) hI (by decide) (fun κ9 g9 hκ9 hκ8 hg9 => zc_O rfl (zvs_cons ⟨_, rfl⟩ rfl (zvs_cons ⟨_, rfl, (hκ9 _ (by rw [hk23]; decide)).trans hk23⟩ rfl (zvs_cons ⟨_, rfl, (hκ9 _ (by rw [hk25]; decide)).trans hk25⟩ rfl zvs_nil))))
  clear hI
  have hI := hI9
  clear hI9
  replace hv10 := fun j => hx2.g hk9 (by decide) (hv10 j)
  replace hv12 := fun j => hx2.g hk11 (by decide) (hv12 j)
  replace hko := hx2.k hko (by decide)
  replace hkd := hx2.k hkd (by decide)
  replace hk1 := hx2.k hk1 (by decide)
  replace hk3 := hx2.k hk3 (by decide)
  replace hk5 := hx2.k hk5 (by decide)
  replace hk7 := hx2.k hk7 (by decide)
  replace hk9 := hx2.k hk9 (by decide)
  replace hk11 := hx2.k hk11 (by decide)
  replace hk13 := hx2.k hk13 (by decide)
  replace hk15 := hx2.k hk15 (by decide)
  replace hk17 := hx2.k hk17 (by decide)
  replace hk19 := hx2.k hk19 (by decide)
  replace hk21 := hx2.k hk21 (by decide)
  replace hk23 := hx2.k hk23 (by decide)
  replace hk25 := hx2.k hk25 (by decide)
  replace hk27 := hx2.k hk27 (by decide)
  replace hk29 := hx2.k hk29 (by decide)
  replace hk31 := hx2.k hk31 (by decide)
  replace hxt := hxt.tr hx2
  clear hx2
  replace hI := z_part (X' := [(yk, .inr (4, [.ref yb, .ref yA, .long 0, .int 0, .int 0])), (px, .inr (10, [.ref yr, .ref yC, .ref yT, .ref yk, .ref ys, .ref yq, .ref yP, .ref yS, .int 0, .long 0])), (ys, .inr (8, [.int 200, .int 5000, .int 600, .long 0, .long 0, .int 0, .long 0, .long 0, .long 0, .long 0])), (yq, .inr (7, [.int 0, .int 0, .int 0, .int 0, .int 0, .int 0, .int 45])), (pm, .inr (13, [.ref lc, .ref lt, .ref pv, .ref pg, .int 0, .int 4000, .int 0, .int 200, .int 5000, .int 600, .int 0, .int 0, .int 0, .int 0, .int 0, .int 0, .int 0, .int 0, .int 0, .long 0, .long 0, .long 0, .long 0, .long 0, .long 0, .int 0, .int 45])), (lc, .inr (1, [.int 0, .ref z0, .int 0])), (lt, .inr (1, [.int 0, .ref z0, .int 0])), (pv, .inl (tc 0, 3, .inl (upd (upd (upd (fun _ => 0) (0 : Int32).toNatClampNeg 500) (1 : Int32).toNatClampNeg 500) (2 : Int32).toNatClampNeg 500))), (pg, .inl (tc 0, 6, .inl (fun _ => 0)))]) [1, 0, 2, 3, 4, 5, 6, 7, 8] rfl rfl hI
  obtain ⟨L18, κ18, g18, hx2, hk35, hv36, hI9⟩ := z_poolG (k := 4) (fun j => ([.ref yb, .ref yA, .long 0, .int 0, .int 0] : List Value).getD j .null) hI (by decide) (fun κ9 g9 hκ9 hκ8 hg9 => zc_O rfl (zvs_cons ⟨_, rfl, (hκ9 _ (by rw [hk33]; decide)).trans hk33⟩ rfl (zvs_cons ⟨_, rfl, (hκ9 _ (by rw [hk27]; decide)).trans hk27⟩ rfl (zvs_cons ⟨_, rfl⟩ rfl (zvs_cons ⟨_, rfl⟩ rfl (zvs_cons ⟨(hg9 4).symm, Or.inl rfl⟩ rfl zvs_nil))))))
  clear hI
  have hI := hI9
  clear hI9
  replace hv10 := fun j => hx2.g hk9 (by decide) (hv10 j)
  replace hv12 := fun j => hx2.g hk11 (by decide) (hv12 j)
  replace hko := hx2.k hko (by decide)
  replace hkd := hx2.k hkd (by decide)
  replace hk1 := hx2.k hk1 (by decide)
  replace hk3 := hx2.k hk3 (by decide)
  replace hk5 := hx2.k hk5 (by decide)
  replace hk7 := hx2.k hk7 (by decide)
  replace hk9 := hx2.k hk9 (by decide)
  replace hk11 := hx2.k hk11 (by decide)
  replace hk13 := hx2.k hk13 (by decide)
  replace hk15 := hx2.k hk15 (by decide)
  replace hk17 := hx2.k hk17 (by decide)
  replace hk19 := hx2.k hk19 (by decide)
  replace hk21 := hx2.k hk21 (by decide)
  replace hk23 := hx2.k hk23 (by decide)
  replace hk25 := hx2.k hk25 (by decide)
  replace hk27 := hx2.k hk27 (by decide)
  replace hk29 := hx2.k hk29 (by decide)
  replace hk31 := hx2.k hk31 (by decide)
  replace hk33 := hx2.k hk33 (by decide)
  replace hxt := hxt.tr hx2
  clear hx2
  have hf37 : g18 yk 4 = .int 0 := hv36 4
  replace hI := z_part (X' := [(ys, .inr (8, [.int 200, .int 5000, .int 600, .long 0, .long 0, .int 0, .long 0, .long 0, .long 0, .long 0])), (px, .inr (10, [.ref yr, .ref yC, .ref yT, .ref yk, .ref ys, .ref yq, .ref yP, .ref yS, .int 0, .long 0])), (yq, .inr (7, [.int 0, .int 0, .int 0, .int 0, .int 0, .int 0, .int 45])), (pm, .inr (13, [.ref lc, .ref lt, .ref pv, .ref pg, .int 0, .int 4000, .int 0, .int 200, .int 5000, .int 600, .int 0, .int 0, .int 0, .int 0, .int 0, .int 0, .int 0, .int 0, .int 0, .long 0, .long 0, .long 0, .long 0, .long 0, .long 0, .int 0, .int 45])), (lc, .inr (1, [.int 0, .ref z0, .int 0])), (lt, .inr (1, [.int 0, .ref z0, .int 0])), (pv, .inl (tc 0, 3, .inl (upd (upd (upd (fun _ => 0) (0 : Int32).toNatClampNeg 500) (1 : Int32).toNatClampNeg 500) (2 : Int32).toNatClampNeg 500))), (pg, .inl (tc 0, 6, .inl (fun _ => 0)))]) [1, 0, 2, 3, 4, 5, 6, 7] rfl rfl hI
  obtain ⟨L19, κ19, g19, hx2, hk38, hv39, hI9⟩ := z_poolG (k := 8) (fun j => ([.int 200, .int 5000, .int 600, .long 0, .long 0, .int 0, .long 0, .long 0, .long 0, .long 0] : List Value).getD j .null) hI (by decide) (fun κ9 g9 hκ9 hκ8 hg9 => zc_O rfl (zvs_cons ⟨(hg9 0).symm, _, rfl⟩ rfl (zvs_cons ⟨_, rfl⟩ rfl (zvs_cons ⟨_, rfl⟩ rfl (zvs_cons ⟨_, rfl⟩ rfl (zvs_cons ⟨_, rfl⟩ rfl (zvs_cons (Or.inl rfl) rfl (zvs_cons ⟨_, rfl⟩ rfl (zvs_cons ⟨_, rfl⟩ rfl (zvs_cons ⟨_, rfl⟩ rfl (zvs_cons ⟨_, rfl⟩ rfl zvs_nil)))))))))))
  clear hI
  have hI := hI9
  clear hI9
  replace hv10 := fun j => hx2.g hk9 (by decide) (hv10 j)
  replace hv12 := fun j => hx2.g hk11 (by decide) (hv12 j)
  replace hf37 := hx2.g hk35 (by decide) hf37
  replace hko := hx2.k hko (by decide)
  replace hkd := hx2.k hkd (by decide)
  replace hk1 := hx2.k hk1 (by decide)
  replace hk3 := hx2.k hk3 (by decide)
  replace hk5 := hx2.k hk5 (by decide)
  replace hk7 := hx2.k hk7 (by decide)
  replace hk9 := hx2.k hk9 (by decide)
  replace hk11 := hx2.k hk11 (by decide)
  replace hk13 := hx2.k hk13 (by decide)
  replace hk15 := hx2.k hk15 (by decide)
  replace hk17 := hx2.k hk17 (by decide)
  replace hk19 := hx2.k hk19 (by decide)
  replace hk21 := hx2.k hk21 (by decide)
  replace hk23 := hx2.k hk23 (by decide)
  replace hk25 := hx2.k hk25 (by decide)
  replace hk27 := hx2.k hk27 (by decide)
  replace hk29 := hx2.k hk29 (by decide)
  replace hk31 := hx2.k hk31 (by decide)
  replace hk33 := hx2.k hk33 (by decide)
  replace hk35 := hx2.k hk35 (by decide)
  replace hxt := hxt.tr hx2
  clear hx2
  have hf40 : g19 ys 0 = .int 200 := hv39 0
  replace hI := z_part (X' := [(yq, .inr (7, [.int 0, .int 0, .int 0, .int 0, .int 0, .int 0, .int 45])), (px, .inr (10, [.ref yr, .ref yC, .ref yT, .ref yk, .ref ys, .ref yq, .ref yP, .ref yS, .int 0, .long 0])), (pm, .inr (13, [.ref lc, .ref lt, .ref pv, .ref pg, .int 0, .int 4000, .int 0, .int 200, .int 5000, .int 600, .int 0, .int 0, .int 0, .int 0, .int 0, .int 0, .int 0, .int 0, .int 0, .long 0, .long 0, .long 0, .long 0, .long 0, .long 0, .int 0, .int 45])), (lc, .inr (1, [.int 0, .ref z0, .int 0])), (lt, .inr (1, [.int 0, .ref z0, .int 0])), (pv, .inl (tc 0, 3, .inl (upd (upd (upd (fun _ => 0) (0 : Int32).toNatClampNeg 500) (1 : Int32).toNatClampNeg 500) (2 : Int32).toNatClampNeg 500))), (pg, .inl (tc 0, 6, .inl (fun _ => 0)))]) [1, 0, 2, 3, 4, 5, 6] rfl rfl hI
  obtain ⟨L20, κ20, g20, hx2, hk41, hv42, hI9⟩ := z_poolG (k := 7) (fun j => ([.int 0, .int 0, .int 0, .int 0, .int 0, .int 0, .int 45] : List Value).getD j .null) hI (by decide) (fun κ9 g9 hκ9 hκ8 hg9 => zc_O rfl (zvs_cons ⟨(hg9 0).symm, _, rfl⟩ rfl (zvs_cons ⟨(hg9 1).symm, _, rfl⟩ rfl (zvs_cons ⟨(hg9 2).symm, _, rfl⟩ rfl (zvs_cons ⟨_, rfl⟩ rfl (zvs_cons ⟨(hg9 4).symm, _, rfl⟩ rfl (zvs_cons ⟨_, rfl⟩ rfl (zvs_cons ⟨(hg9 6).symm, _, rfl, by decide⟩ rfl zvs_nil))))))))
  clear hI
  have hI := hI9
  clear hI9
  replace hv10 := fun j => hx2.g hk9 (by decide) (hv10 j)
  replace hv12 := fun j => hx2.g hk11 (by decide) (hv12 j)
  replace hf37 := hx2.g hk35 (by decide) hf37
  replace hf40 := hx2.g hk38 (by decide) hf40
  replace hko := hx2.k hko (by decide)
  replace hkd := hx2.k hkd (by decide)
  replace hk1 := hx2.k hk1 (by decide)
  replace hk3 := hx2.k hk3 (by decide)
  replace hk5 := hx2.k hk5 (by decide)
  replace hk7 := hx2.k hk7 (by decide)
  replace hk9 := hx2.k hk9 (by decide)
  replace hk11 := hx2.k hk11 (by decide)
  replace hk13 := hx2.k hk13 (by decide)
  replace hk15 := hx2.k hk15 (by decide)
  replace hk17 := hx2.k hk17 (by decide)
  replace hk19 := hx2.k hk19 (by decide)
  replace hk21 := hx2.k hk21 (by decide)
  replace hk23 := hx2.k hk23 (by decide)
  replace hk25 := hx2.k hk25 (by decide)
  replace hk27 := hx2.k hk27 (by decide)
  replace hk29 := hx2.k hk29 (by decide)
  replace hk31 := hx2.k hk31 (by decide)
  replace hk33 := hx2.k hk33 (by decide)
  replace hk35 := hx2.k hk35 (by decide)
  replace hk38 := hx2.k hk38 (by decide)
  replace hxt := hxt.tr hx2
  clear hx2
  have hf43 : g20 yq 0 = .int 0 := hv42 0
  have hf44 : g20 yq 1 = .int 0 := hv42 1
  have hf45 : g20 yq 2 = .int 0 := hv42 2
  have hf46 : g20 yq 4 = .int 0 := hv42 4
  have hf47 : g20 yq 6 = .int 45 := hv42 6
  obtain ⟨L21, κ21, g21, hx2, hk48, hv49, hI9⟩ := z_poolG (k := 10) (fun j => ([.ref yr, .ref yC, .ref yT, .ref yk, .ref ys, .ref yq, .ref yP, .ref yS, .int 0, .long 0] : List Value).getD j .null) hI (by decide) (fun κ9 g9 hκ9 hκ8 hg9 => zc_O rfl (zvs_cons ⟨(hg9 0).symm, _, rfl, (hκ9 _ (by rw [hk7]; decide)).trans hk7⟩ rfl (zvs_cons ⟨(hg9 1).symm, _, rfl, (hκ9 _ (by rw [hk9]; decide)).trans hk9⟩ rfl (zvs_cons ⟨(hg9 2).symm, _, rfl, (hκ9 _ (by rw [hk11]; decide)).trans hk11⟩ rfl (zvs_cons ⟨(hg9 3).symm, _, rfl, (hκ9 _ (by rw [hk35]; decide)).trans hk35⟩ rfl (zvs_cons ⟨(hg9 4).symm, _, rfl, (hκ9 _ (by rw [hk38]; decide)).trans hk38⟩ rfl (zvs_cons ⟨(hg9 5).symm, _, rfl, (hκ9 _ (by rw [hk41]; decide)).trans hk41⟩ rfl (zvs_cons ⟨_, rfl, (hκ9 _ (by rw [hk29]; decide)).trans hk29⟩ rfl (zvs_cons ⟨_, rfl, (hκ9 _ (by rw [hk31]; decide)).trans hk31⟩ rfl (zvs_cons ⟨(hg9 8).symm, _, rfl⟩ rfl (zvs_cons ⟨_, rfl⟩ rfl zvs_nil)))))))))))
  clear hI
  have hI := hI9
  clear hI9
  replace hv10 := fun j => hx2.g hk9 (by decide) (hv10 j)
  replace hv12 := fun j => hx2.g hk11 (by decide) (hv12 j)
  replace hf37 := hx2.g hk35 (by decide) hf37
  replace hf40 := hx2.g hk38 (by decide) hf40
  replace hf43 := hx2.g hk41 (by decide) hf43
  replace hf44 := hx2.g hk41 (by decide) hf44
  replace hf45 := hx2.g hk41 (by decide) hf45
  replace hf46 := hx2.g hk41 (by decide) hf46
  replace hf47 := hx2.g hk41 (by decide) hf47
  replace hko := hx2.k hko (by decide)
  replace hkd := hx2.k hkd (by decide)
  replace hk1 := hx2.k hk1 (by decide)
  replace hk3 := hx2.k hk3 (by decide)
  replace hk5 := hx2.k hk5 (by decide)
  replace hk7 := hx2.k hk7 (by decide)
  replace hk9 := hx2.k hk9 (by decide)
  replace hk11 := hx2.k hk11 (by decide)
  replace hk13 := hx2.k hk13 (by decide)
  replace hk15 := hx2.k hk15 (by decide)
  replace hk17 := hx2.k hk17 (by decide)
  replace hk19 := hx2.k hk19 (by decide)
  replace hk21 := hx2.k hk21 (by decide)
  replace hk23 := hx2.k hk23 (by decide)
  replace hk25 := hx2.k hk25 (by decide)
  replace hk27 := hx2.k hk27 (by decide)
  replace hk29 := hx2.k hk29 (by decide)
  replace hk31 := hx2.k hk31 (by decide)
  replace hk33 := hx2.k hk33 (by decide)
  replace hk35 := hx2.k hk35 (by decide)
  replace hk38 := hx2.k hk38 (by decide)
  replace hk41 := hx2.k hk41 (by decide)
  replace hxt := hxt.tr hx2
  clear hx2
  have hf50 : g21 px 0 = .ref yr := hv49 0
  have hf51 : g21 px 1 = .ref yC := hv49 1
  have hf52 : g21 px 2 = .ref yT := hv49 2
  have hf53 : g21 px 3 = .ref yk := hv49 3
  have hf54 : g21 px 4 = .ref ys := hv49 4
  have hf55 : g21 px 5 = .ref yq := hv49 5
  have hf56 : g21 px 8 = .int 0 := hv49 8
  replace hI := z_part (X' := [(lc, .inr (1, [.int 0, .ref z0, .int 0])), (pm, .inr (13, [.ref lc, .ref lt, .ref pv, .ref pg, .int 0, .int 4000, .int 0, .int 200, .int 5000, .int 600, .int 0, .int 0, .int 0, .int 0, .int 0, .int 0, .int 0, .int 0, .int 0, .long 0, .long 0, .long 0, .long 0, .long 0, .long 0, .int 0, .int 45])), (lt, .inr (1, [.int 0, .ref z0, .int 0])), (pv, .inl (tc 0, 3, .inl (upd (upd (upd (fun _ => 0) (0 : Int32).toNatClampNeg 500) (1 : Int32).toNatClampNeg 500) (2 : Int32).toNatClampNeg 500))), (pg, .inl (tc 0, 6, .inl (fun _ => 0)))]) [1, 0, 2, 3, 4] rfl rfl hI
  obtain ⟨L22, κ22, g22, hx2, hk57, hv58, hI9⟩ := z_poolG (k := 1) (fun j => ([.int 0, .ref z0, .int 0] : List Value).getD j .null) hI (by decide) (fun κ9 g9 hκ9 hκ8 hg9 => zc_O rfl (zvs_cons ⟨(hg9 0).symm, _, rfl⟩ rfl (zvs_cons ⟨(hg9 1).symm, _, rfl⟩ rfl (zvs_cons ⟨(hg9 2).symm, _, rfl⟩ rfl zvs_nil))))
  clear hI
  have hI := hI9
  clear hI9
  replace hv10 := fun j => hx2.g hk9 (by decide) (hv10 j)
  replace hv12 := fun j => hx2.g hk11 (by decide) (hv12 j)
  replace hf37 := hx2.g hk35 (by decide) hf37
  replace hf40 := hx2.g hk38 (by decide) hf40
  replace hf43 := hx2.g hk41 (by decide) hf43
  replace hf44 := hx2.g hk41 (by decide) hf44
  replace hf45 := hx2.g hk41 (by decide) hf45
  replace hf46 := hx2.g hk41 (by decide) hf46
  replace hf47 := hx2.g hk41 (by decide) hf47
  replace hf50 := hx2.g hk48 (by decide) hf50
  replace hf51 := hx2.g hk48 (by decide) hf51
  replace hf52 := hx2.g hk48 (by decide) hf52
  replace hf53 := hx2.g hk48 (by decide) hf53
  replace hf54 := hx2.g hk48 (by decide) hf54
  replace hf55 := hx2.g hk48 (by decide) hf55
  replace hf56 := hx2.g hk48 (by decide) hf56
  replace hko := hx2.k hko (by decide)
  replace hkd := hx2.k hkd (by decide)
  replace hk1 := hx2.k hk1 (by decide)
  replace hk3 := hx2.k hk3 (by decide)
  replace hk5 := hx2.k hk5 (by decide)
  replace hk7 := hx2.k hk7 (by decide)
  replace hk9 := hx2.k hk9 (by decide)
  replace hk11 := hx2.k hk11 (by decide)
  replace hk13 := hx2.k hk13 (by decide)
  replace hk15 := hx2.k hk15 (by decide)
  replace hk17 := hx2.k hk17 (by decide)
  replace hk19 := hx2.k hk19 (by decide)
  replace hk21 := hx2.k hk21 (by decide)
  replace hk23 := hx2.k hk23 (by decide)
  replace hk25 := hx2.k hk25 (by decide)
  replace hk27 := hx2.k hk27 (by decide)
  replace hk29 := hx2.k hk29 (by decide)
  replace hk31 := hx2.k hk31 (by decide)
  replace hk33 := hx2.k hk33 (by decide)
  replace hk35 := hx2.k hk35 (by decide)
  replace hk38 := hx2.k hk38 (by decide)
  replace hk41 := hx2.k hk41 (by decide)
  replace hk48 := hx2.k hk48 (by decide)
  replace hxt := hxt.tr hx2
  clear hx2
  have hf59 : g22 lc 0 = .int 0 := hv58 0
  have hf60 : g22 lc 1 = .ref z0 := hv58 1
  have hf61 : g22 lc 2 = .int 0 := hv58 2
  replace hI := z_part (X' := [(lt, .inr (1, [.int 0, .ref z0, .int 0])), (pm, .inr (13, [.ref lc, .ref lt, .ref pv, .ref pg, .int 0, .int 4000, .int 0, .int 200, .int 5000, .int 600, .int 0, .int 0, .int 0, .int 0, .int 0, .int 0, .int 0, .int 0, .int 0, .long 0, .long 0, .long 0, .long 0, .long 0, .long 0, .int 0, .int 45])), (pv, .inl (tc 0, 3, .inl (upd (upd (upd (fun _ => 0) (0 : Int32).toNatClampNeg 500) (1 : Int32).toNatClampNeg 500) (2 : Int32).toNatClampNeg 500))), (pg, .inl (tc 0, 6, .inl (fun _ => 0)))]) [1, 0, 2, 3] rfl rfl hI
  obtain ⟨L23, κ23, g23, hx2, hk62, hv63, hI9⟩ := z_poolG (k := 14) (fun j => ([.int 0, .ref z0, .int 0] : List Value).getD j .null) hI (by decide) (fun κ9 g9 hκ9 hκ8 hg9 => zc_O rfl (zvs_cons ⟨(hg9 0).symm, _, rfl⟩ rfl (zvs_cons ⟨(hg9 1).symm, _, rfl⟩ rfl (zvs_cons ⟨(hg9 2).symm, _, rfl⟩ rfl zvs_nil))))
  clear hI
  have hI := hI9
  clear hI9
  replace hv10 := fun j => hx2.g hk9 (by decide) (hv10 j)
  replace hv12 := fun j => hx2.g hk11 (by decide) (hv12 j)
  replace hf37 := hx2.g hk35 (by decide) hf37
  replace hf40 := hx2.g hk38 (by decide) hf40
  replace hf43 := hx2.g hk41 (by decide) hf43
  replace hf44 := hx2.g hk41 (by decide) hf44
  replace hf45 := hx2.g hk41 (by decide) hf45
  replace hf46 := hx2.g hk41 (by decide) hf46
  replace hf47 := hx2.g hk41 (by decide) hf47
  replace hf50 := hx2.g hk48 (by decide) hf50
  replace hf51 := hx2.g hk48 (by decide) hf51
  replace hf52 := hx2.g hk48 (by decide) hf52
  replace hf53 := hx2.g hk48 (by decide) hf53
  replace hf54 := hx2.g hk48 (by decide) hf54
  replace hf55 := hx2.g hk48 (by decide) hf55
  replace hf56 := hx2.g hk48 (by decide) hf56
  replace hf59 := hx2.g hk57 (by decide) hf59
  replace hf60 := hx2.g hk57 (by decide) hf60
  replace hf61 := hx2.g hk57 (by decide) hf61
  replace hko := hx2.k hko (by decide)
  replace hkd := hx2.k hkd (by decide)
  replace hk1 := hx2.k hk1 (by decide)
  replace hk3 := hx2.k hk3 (by decide)
  replace hk5 := hx2.k hk5 (by decide)
  replace hk7 := hx2.k hk7 (by decide)
  replace hk9 := hx2.k hk9 (by decide)
  replace hk11 := hx2.k hk11 (by decide)
  replace hk13 := hx2.k hk13 (by decide)
  replace hk15 := hx2.k hk15 (by decide)
  replace hk17 := hx2.k hk17 (by decide)
  replace hk19 := hx2.k hk19 (by decide)
  replace hk21 := hx2.k hk21 (by decide)
  replace hk23 := hx2.k hk23 (by decide)
  replace hk25 := hx2.k hk25 (by decide)
  replace hk27 := hx2.k hk27 (by decide)
  replace hk29 := hx2.k hk29 (by decide)
  replace hk31 := hx2.k hk31 (by decide)
  replace hk33 := hx2.k hk33 (by decide)
  replace hk35 := hx2.k hk35 (by decide)
  replace hk38 := hx2.k hk38 (by decide)
  replace hk41 := hx2.k hk41 (by decide)
  replace hk48 := hx2.k hk48 (by decide)
  replace hk57 := hx2.k hk57 (by decide)
  replace hxt := hxt.tr hx2
  clear hx2
  have hf64 : g23 lt 0 = .int 0 := hv63 0
  have hf65 : g23 lt 1 = .ref z0 := hv63 1
  have hf66 : g23 lt 2 = .int 0 := hv63 2
  replace hI := z_part (X' := [(pv, .inl (tc 0, 3, .inl (upd (upd (upd (fun _ => 0) (0 : Int32).toNatClampNeg 500) (1 : Int32).toNatClampNeg 500) (2 : Int32).toNatClampNeg 500))), (pm, .inr (13, [.ref lc, .ref lt, .ref pv, .ref pg, .int 0, .int 4000, .int 0, .int 200, .int 5000, .int 600, .int 0, .int 0, .int 0, .int 0, .int 0, .int 0, .int 0, .int 0, .int 0, .long 0, .long 0, .long 0, .long 0, .long 0, .long 0, .int 0, .int 45])), (pg, .inl (tc 0, 6, .inl (fun _ => 0)))]) [1, 0, 2] rfl rfl hI
  obtain ⟨L24, κ24, g24, hx2, hk67, hv68, hI9⟩ := z_poolG (k := 27) (fun _ => .null) hI (by decide) (fun κ9 g9 hκ9 hκ8 hg9 => Or.inr ⟨rfl, 0, 3, 0, (0, 0), fun j => .int ((upd (upd (upd (fun _ => 0) (0 : Int32).toNatClampNeg 500) (1 : Int32).toNatClampNeg 500) (2 : Int32).toNatClampNeg 500) j), rfl, ⟨_, rfl, fun j hj => rfl⟩, fun j hj => ⟨_, rfl⟩⟩)
  clear hI
  have hI := hI9
  clear hI9
  replace hv10 := fun j => hx2.g hk9 (by decide) (hv10 j)
  replace hv12 := fun j => hx2.g hk11 (by decide) (hv12 j)
  replace hf37 := hx2.g hk35 (by decide) hf37
  replace hf40 := hx2.g hk38 (by decide) hf40
  replace hf43 := hx2.g hk41 (by decide) hf43
  replace hf44 := hx2.g hk41 (by decide) hf44
  replace hf45 := hx2.g hk41 (by decide) hf45
  replace hf46 := hx2.g hk41 (by decide) hf46
  replace hf47 := hx2.g hk41 (by decide) hf47
  replace hf50 := hx2.g hk48 (by decide) hf50
  replace hf51 := hx2.g hk48 (by decide) hf51
  replace hf52 := hx2.g hk48 (by decide) hf52
  replace hf53 := hx2.g hk48 (by decide) hf53
  replace hf54 := hx2.g hk48 (by decide) hf54
  replace hf55 := hx2.g hk48 (by decide) hf55
  replace hf56 := hx2.g hk48 (by decide) hf56
  replace hf59 := hx2.g hk57 (by decide) hf59
  replace hf60 := hx2.g hk57 (by decide) hf60
  replace hf61 := hx2.g hk57 (by decide) hf61
  replace hf64 := hx2.g hk62 (by decide) hf64
  replace hf65 := hx2.g hk62 (by decide) hf65
  replace hf66 := hx2.g hk62 (by decide) hf66
  replace hko := hx2.k hko (by decide)
  replace hkd := hx2.k hkd (by decide)
  replace hk1 := hx2.k hk1 (by decide)
  replace hk3 := hx2.k hk3 (by decide)
  replace hk5 := hx2.k hk5 (by decide)
  replace hk7 := hx2.k hk7 (by decide)
  replace hk9 := hx2.k hk9 (by decide)
  replace hk11 := hx2.k hk11 (by decide)
  replace hk13 := hx2.k hk13 (by decide)
  replace hk15 := hx2.k hk15 (by decide)
  replace hk17 := hx2.k hk17 (by decide)
  replace hk19 := hx2.k hk19 (by decide)
  replace hk21 := hx2.k hk21 (by decide)
  replace hk23 := hx2.k hk23 (by decide)
  replace hk25 := hx2.k hk25 (by decide)
  replace hk27 := hx2.k hk27 (by decide)
  replace hk29 := hx2.k hk29 (by decide)
  replace hk31 := hx2.k hk31 (by decide)
  replace hk33 := hx2.k hk33 (by decide)
  replace hk35 := hx2.k hk35 (by decide)
  replace hk38 := hx2.k hk38 (by decide)
  replace hk41 := hx2.k hk41 (by decide)
  replace hk48 := hx2.k hk48 (by decide)
  replace hk57 := hx2.k hk57 (by decide)
  replace hk62 := hx2.k hk62 (by decide)
  replace hxt := hxt.tr hx2
  clear hx2
  replace hI := z_part (X' := [(pg, .inl (tc 0, 6, .inl (fun _ => 0))), (pm, .inr (13, [.ref lc, .ref lt, .ref pv, .ref pg, .int 0, .int 4000, .int 0, .int 200, .int 5000, .int 600, .int 0, .int 0, .int 0, .int 0, .int 0, .int 0, .int 0, .int 0, .int 0, .long 0, .long 0, .long 0, .long 0, .long 0, .long 0, .int 0, .int 45]))]) [1, 0] rfl rfl hI
  obtain ⟨L25, κ25, g25, hx2, hk69, hv70, hI9⟩ := z_poolG (k := 28) (fun _ => .null) hI (by decide) (fun κ9 g9 hκ9 hκ8 hg9 => Or.inr ⟨rfl, 0, 6, 0, (0, 0), fun j => .int ((fun _ => 0) j), rfl, ⟨_, rfl, fun j hj => rfl⟩, fun j hj => ⟨_, rfl⟩⟩)
  clear hI
  have hI := hI9
  clear hI9
  replace hv10 := fun j => hx2.g hk9 (by decide) (hv10 j)
  replace hv12 := fun j => hx2.g hk11 (by decide) (hv12 j)
  replace hf37 := hx2.g hk35 (by decide) hf37
  replace hf40 := hx2.g hk38 (by decide) hf40
  replace hf43 := hx2.g hk41 (by decide) hf43
  replace hf44 := hx2.g hk41 (by decide) hf44
  replace hf45 := hx2.g hk41 (by decide) hf45
  replace hf46 := hx2.g hk41 (by decide) hf46
  replace hf47 := hx2.g hk41 (by decide) hf47
  replace hf50 := hx2.g hk48 (by decide) hf50
  replace hf51 := hx2.g hk48 (by decide) hf51
  replace hf52 := hx2.g hk48 (by decide) hf52
  replace hf53 := hx2.g hk48 (by decide) hf53
  replace hf54 := hx2.g hk48 (by decide) hf54
  replace hf55 := hx2.g hk48 (by decide) hf55
  replace hf56 := hx2.g hk48 (by decide) hf56
  replace hf59 := hx2.g hk57 (by decide) hf59
  replace hf60 := hx2.g hk57 (by decide) hf60
  replace hf61 := hx2.g hk57 (by decide) hf61
  replace hf64 := hx2.g hk62 (by decide) hf64
  replace hf65 := hx2.g hk62 (by decide) hf65
  replace hf66 := hx2.g hk62 (by decide) hf66
  replace hko := hx2.k hko (by decide)
  replace hkd := hx2.k hkd (by decide)
  replace hk1 := hx2.k hk1 (by decide)
  replace hk3 := hx2.k hk3 (by decide)
  replace hk5 := hx2.k hk5 (by decide)
  replace hk7 := hx2.k hk7 (by decide)
  replace hk9 := hx2.k hk9 (by decide)
  replace hk11 := hx2.k hk11 (by decide)
  replace hk13 := hx2.k hk13 (by decide)
  replace hk15 := hx2.k hk15 (by decide)
  replace hk17 := hx2.k hk17 (by decide)
  replace hk19 := hx2.k hk19 (by decide)
  replace hk21 := hx2.k hk21 (by decide)
  replace hk23 := hx2.k hk23 (by decide)
  replace hk25 := hx2.k hk25 (by decide)
  replace hk27 := hx2.k hk27 (by decide)
  replace hk29 := hx2.k hk29 (by decide)
  replace hk31 := hx2.k hk31 (by decide)
  replace hk33 := hx2.k hk33 (by decide)
  replace hk35 := hx2.k hk35 (by decide)
  replace hk38 := hx2.k hk38 (by decide)
  replace hk41 := hx2.k hk41 (by decide)
  replace hk48 := hx2.k hk48 (by decide)
  replace hk57 := hx2.k hk57 (by decide)
  replace hk62 := hx2.k hk62 (by decide)
  replace hk67 := hx2.k hk67 (by decide)
  replace hxt := hxt.tr hx2
  clear hx2
  obtain ⟨L26, κ26, g26, hx2, hk71, hv72, hI9⟩ := z_poolG (k := 13) (fun j => ([.ref lc, .ref lt, .ref pv, .ref pg, .int 0, .int 4000, .int 0, .int 200, .int 5000, .int 600, .int 0, .int 0, .int 0, .int 0, .int 0, .int 0, .int 0, .int 0, .int 0, .long 0, .long 0, .long 0, .long 0, .long 0, .long 0, .int 0, .int 45] : List Value).getD j .null) hI (by decide) (fun κ9 g9 hκ9 hκ8 hg9 => zc_O rfl (zvs_cons ⟨(hg9 0).symm, _, rfl, (hκ9 _ (by rw [hk57]; decide)).trans hk57⟩ rfl (zvs_cons ⟨(hg9 1).symm, _, rfl, (hκ9 _ (by rw [hk62]; decide)).trans hk62⟩ rfl (zvs_cons ⟨(hg9 2).symm, _, rfl, (hκ9 _ (by rw [hk67]; decide)).trans hk67⟩ rfl (zvs_cons ⟨(hg9 3).symm, _, rfl, (hκ9 _ (by rw [hk69]; decide)).trans hk69⟩ rfl (zvs_cons ⟨(hg9 4).symm, _, rfl⟩ rfl (zvs_cons ⟨_, rfl⟩ rfl (zvs_cons ⟨_, rfl⟩ rfl (zvs_cons ⟨(hg9 7).symm, _, rfl⟩ rfl (zvs_cons ⟨_, rfl⟩ rfl (zvs_cons ⟨_, rfl⟩ rfl (zvs_cons ⟨_, rfl⟩ rfl (zvs_cons ⟨_, rfl⟩ rfl (zvs_cons ⟨(hg9 12).symm, _, rfl⟩ rfl (zvs_cons ⟨(hg9 13).symm, _, rfl⟩ rfl (zvs_cons ⟨(hg9 14).symm, _, rfl⟩ rfl (zvs_cons ⟨_, rfl⟩ rfl (zvs_cons ⟨(hg9 16).symm, _, rfl⟩ rfl (zvs_cons ⟨_, rfl⟩ rfl (zvs_cons ⟨(hg9 18).symm, _, rfl⟩ rfl (zvs_cons ⟨_, rfl⟩ rfl (zvs_cons ⟨_, rfl⟩ rfl (zvs_cons ⟨_, rfl⟩ rfl (zvs_cons ⟨_, rfl⟩ rfl (zvs_cons ⟨_, rfl⟩ rfl (zvs_cons ⟨_, rfl⟩ rfl (zvs_cons ⟨(hg9 25).symm, Or.inl rfl⟩ rfl (zvs_cons ⟨(hg9 26).symm, _, rfl, by decide⟩ rfl zvs_nil))))))))))))))))))))))))))))
  clear hI
  have hI := hI9
  clear hI9
  replace hv10 := fun j => hx2.g hk9 (by decide) (hv10 j)
  replace hv12 := fun j => hx2.g hk11 (by decide) (hv12 j)
  replace hf37 := hx2.g hk35 (by decide) hf37
  replace hf40 := hx2.g hk38 (by decide) hf40
  replace hf43 := hx2.g hk41 (by decide) hf43
  replace hf44 := hx2.g hk41 (by decide) hf44
  replace hf45 := hx2.g hk41 (by decide) hf45
  replace hf46 := hx2.g hk41 (by decide) hf46
  replace hf47 := hx2.g hk41 (by decide) hf47
  replace hf50 := hx2.g hk48 (by decide) hf50
  replace hf51 := hx2.g hk48 (by decide) hf51
  replace hf52 := hx2.g hk48 (by decide) hf52
  replace hf53 := hx2.g hk48 (by decide) hf53
  replace hf54 := hx2.g hk48 (by decide) hf54
  replace hf55 := hx2.g hk48 (by decide) hf55
  replace hf56 := hx2.g hk48 (by decide) hf56
  replace hf59 := hx2.g hk57 (by decide) hf59
  replace hf60 := hx2.g hk57 (by decide) hf60
  replace hf61 := hx2.g hk57 (by decide) hf61
  replace hf64 := hx2.g hk62 (by decide) hf64
  replace hf65 := hx2.g hk62 (by decide) hf65
  replace hf66 := hx2.g hk62 (by decide) hf66
  replace hko := hx2.k hko (by decide)
  replace hkd := hx2.k hkd (by decide)
  replace hk1 := hx2.k hk1 (by decide)
  replace hk3 := hx2.k hk3 (by decide)
  replace hk5 := hx2.k hk5 (by decide)
  replace hk7 := hx2.k hk7 (by decide)
  replace hk9 := hx2.k hk9 (by decide)
  replace hk11 := hx2.k hk11 (by decide)
  replace hk13 := hx2.k hk13 (by decide)
  replace hk15 := hx2.k hk15 (by decide)
  replace hk17 := hx2.k hk17 (by decide)
  replace hk19 := hx2.k hk19 (by decide)
  replace hk21 := hx2.k hk21 (by decide)
  replace hk23 := hx2.k hk23 (by decide)
  replace hk25 := hx2.k hk25 (by decide)
  replace hk27 := hx2.k hk27 (by decide)
  replace hk29 := hx2.k hk29 (by decide)
  replace hk31 := hx2.k hk31 (by decide)
  replace hk33 := hx2.k hk33 (by decide)
  replace hk35 := hx2.k hk35 (by decide)
  replace hk38 := hx2.k hk38 (by decide)
  replace hk41 := hx2.k hk41 (by decide)
  replace hk48 := hx2.k hk48 (by decide)
  replace hk57 := hx2.k hk57 (by decide)
  replace hk62 := hx2.k hk62 (by decide)
  replace hk67 := hx2.k hk67 (by decide)
  replace hk69 := hx2.k hk69 (by decide)
  replace hxt := hxt.tr hx2
  clear hx2
  have hf73 : g26 pm 0 = .ref lc := hv72 0
  have hf74 : g26 pm 1 = .ref lt := hv72 1
  have hf75 : g26 pm 2 = .ref pv := hv72 2
  have hf76 : g26 pm 3 = .ref pg := hv72 3
  have hf77 : g26 pm 4 = .int 0 := hv72 4
  have hf78 : g26 pm 7 = .int 200 := hv72 7
  have hf79 : g26 pm 12 = .int 0 := hv72 12
  have hf80 : g26 pm 13 = .int 0 := hv72 13
  have hf81 : g26 pm 14 = .int 0 := hv72 14
  have hf82 : g26 pm 16 = .int 0 := hv72 16
  have hf83 : g26 pm 18 = .int 0 := hv72 18
  have hf84 : g26 pm 25 = .int 0 := hv72 25
  have hf85 : g26 pm 26 = .int 45 := hv72 26
  exact ⟨L26, κ26, g26, hxt, hko, hkd, ⟨⟨⟨hk48, hk71, hk41, hk35, hk38, hk9, hk11⟩, ⟨hf55, hf53, hf54, hf51, hf52⟩, ⟨hf77, by decide⟩, lc, z0, 0, 0, (fun _ => 0), lt, z0, 0, 0, (fun _ => 0), ⟨hk71, hf73, hf74, ⟨hk57, hf59, hf60, (hf61).trans (by rw [nI_0]), by decide, fun h => absurd h (by decide), fun _ => rfl, fun j hj => absurd hj (Nat.not_lt_zero _)⟩, ⟨hk62, hf64, hf65, (hf66).trans (by rw [nI_0]), by decide, fun h => absurd h (by decide), fun _ => rfl, fun j hj => absurd hj (Nat.not_lt_zero _)⟩, by decide, by decide⟩, zSd.nil hv10, zSd.nil hv12⟩, ⟨hf43.trans hf83.symm, hf44.trans hf80.symm, hf45.trans hf81.symm, hf46.trans hf82.symm, hf47.trans hf85.symm, hf56.trans hf77.symm, hf37.trans hf84.symm, hf40.trans hf78.symm⟩⟩, ⟨hv10, hv12⟩, hI⟩
