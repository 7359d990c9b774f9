theorem z_poolH {D : va_G} {tc : Nat → ClassId} {A : Nat → Prop} {H0 : Heap} {X : va_W} {L : List Nat} {κ : Nat → Nat} {g : Nat → Nat → Value} {H : Heap} {locs : List Loc} {a k : Nat} {e1 : va_E} (gv : Nat → Value) (hI : zI D tc A H0 ((a, e1) :: X) L κ g H locs) (hk9 : k < 99) (he : ∀ (κ2 : Nat → Nat) (g2 : Nat → Nat → Value), (∀ r, κ r < 99 → κ2 r = κ r) → κ2 a = k → (∀ j, g2 a j = gv j) → zc tc κ2 g2 a k e1) :
    ∃ (L2 : List Nat) (κ2 : Nat → Nat) (g2 : Nat → Nat → Value), zExt κ g κ2 g2 ∧ κ2 a = k ∧ (∀ j, g2 a j = gv j) ∧ zI D tc A H0 X L2 κ2 g2 H locs ∧ ∀ b, b ≠ a → κ2 b = κ b := by
  have hfr := z_fresh hI
  obtain ⟨h1, h2⟩ := z_pool1 (g2 := fun b j => if b = a then gv j else g b j) hI hk9 (he _ _ (fun r hr => va_up_ne _ _ (hfr r hr)) (va_up_self _ _ _) (fun j => if_pos rfl)) (fun b j h => if_neg h)
  exact ⟨_, _, _, h1, va_up_self _ _ _, fun j => if_pos rfl, h2, fun b hb => va_up_ne _ _ hb⟩
/-- a number of one digit, fresh -/
theorem zN_one {g : Nat → Nat → Value} {a q : Nat} {v : Int64} (h0 : g a 0 = .ref q) (h1 : g a 1 = .int (nI 1)) (hq : ∀ j, g q j = .long (vp_updL (fun _ => 0) (0 : Int32).toNatClampNeg v j)) (hv : 0 < v.toInt ∧ v.toInt < 4294967296) : zN g a q 1 ∧ zV g q = v.toInt := by
  have e0 : dg g q 0 = v.toInt := dg_at (by rw [hq 0]; simp [vp_updL])
  have ej : ∀ j, j ≠ 0 → dg g q j = 0 := fun j hj => by
    have h2 : g q j = .long 0 := by rw [hq j]; simp [vp_updL, hj]
    rw [dg_at h2]; rfl
  have hn : zN0 g a q 1 := by
    refine ⟨h0, h1, by omega, fun j hj => ?_, fun j hj _ => ej j (by omega)⟩
    by_cases hj0 : j = 0
    · rw [hj0, e0]; omega
    · rw [ej j hj0]; omega
  refine ⟨⟨hn, Or.inr (by rw [show 1 - 1 = 0 from rfl, e0]; omega)⟩, ?_⟩
  rw [hn.one (Nat.le_refl 1), e0]
theorem zN_nil {g : Nat → Nat → Value} {a q : Nat} (h0 : g a 0 = .ref q) (h1 : g a 1 = .int (nI 0)) (hq : ∀ j, g q j = .long ((fun _ => 0 : Nat → Int64) j)) : zN g a q 0 := by
  have ej : ∀ j, dg g q j = 0 := fun j => by rw [dg_at (hq j)]; rfl
  exact ⟨⟨h0, h1, by omega, fun j _ => by rw [ej j]; omega, fun j _ _ => ej j⟩, Or.inl rfl⟩

set_option maxHeartbeats 4000000 in
set_option maxRecDepth 100000 in
theorem z_core42 {D : va_G} {tc : Nat → ClassId} {A : Nat → Prop} {H0 : Heap} {L : List Nat} {κ : Nat → Nat} {g : Nat → Nat → Value} {H : Heap} {locs : List Loc} {p0 q1 q2 q3 q4 q5 rl : Nat} {i1 bg : Int32} (hrl : κ rl = 6) (hbg : bg = 0 ∨ bg = 1) (hI : zI D tc A H0 [(p0, .inr (5, [.int i1, .ref rl, .int bg, .int 108, .int 0, .int 0, .int 0, .int 0, .int 45, .int 97, .int 0, .int 0, .int 0, .int 0, .int 0, .ref q1, .int 20, .int 0, .int 0, .int 0])), (q1, .inr (3, [.int 20, .ref q2, .ref q3])), (q2, .inr (2, [.ref q4, .int 1])), (q3, .inr (2, [.ref q5, .int 1])), (q4, .inl (tc 1, 16, .inr (.inl (vp_updL (fun _ => 0) (0 : Int32).toNatClampNeg 400)))), (q5, .inl (tc 1, 16, .inr (.inl (vp_updL (fun _ => 0) (0 : Int32).toNatClampNeg 20))))] L κ g H locs) :
    ∃ (L2 : List Nat) (κ2 : Nat → Nat) (g2 : Nat → Nat → Value), zI D tc A H0 [] L2 κ2 g2 H locs ∧ zExt κ g κ2 g2 ∧ (κ2 p0 = 5 ∧ κ2 q1 = 3 ∧ κ2 q2 = 32 ∧ κ2 q3 = 33 ∧ κ2 q4 = 52 ∧ κ2 q5 = 53) ∧ ((∀ x : Nat, κ x < 99 → x ≠ p0) ∧ (∀ x : Nat, κ x < 99 → x ≠ q1) ∧ (∀ x : Nat, κ x < 99 → x ≠ q2) ∧ (∀ x : Nat, κ x < 99 → x ≠ q3) ∧ (∀ x : Nat, κ x < 99 → x ≠ q4) ∧ (∀ x : Nat, κ x < 99 → x ≠ q5)) ∧ (g2 p0 15 = .ref q1 ∧ g2 p0 19 = .int 0 ∧ g2 q1 1 = .ref q2 ∧ g2 q1 2 = .ref q3) ∧ (zN g2 q2 q4 1 ∧ zV g2 q4 = (400 : Int64).toInt) ∧ (zN g2 q3 q5 1 ∧ zV g2 q5 = (20 : Int64).toInt) ∧ (∀ x : Nat, x ≠ q4 → x ≠ q5 → x ≠ q2 → x ≠ q3 → x ≠ q1 → x ≠ p0 → κ2 x = κ x) := by
  have hxt : zExt κ g κ g := zExt.rf
  have hI : zI D tc A H0 [(p0, .inr (5, [.int i1, .ref rl, .int bg, .int 108, .int 0, .int 0, .int 0, .int 0, .int 45, .int 97, .int 0, .int 0, .int 0, .int 0, .int 0, .ref q1, .int 20, .int 0, .int 0, .int 0])), (q1, .inr (3, [.int 20, .ref q2, .ref q3])), (q2, .inr (2, [.ref q4, .int 1])), (q3, .inr (2, [.ref q5, .int 1])), (q4, .inl (tc 1, 16, .inr (.inl (vp_updL (fun _ => 0) (0 : Int32).toNatClampNeg 400)))), (q5, .inl (tc 1, 16, .inr (.inl (vp_updL (fun _ => 0) (0 : Int32).toNatClampNeg 20))))] L κ g H locs := hI
  have hI := z_part (X' := [(q4, .inl (tc 1, 16, .inr (.inl (vp_updL (fun _ => 0) (0 : Int32).toNatClampNeg 400)))), (p0, .inr (5, [.int i1, .ref rl, .int bg, .int 108, .int 0, .int 0, .int 0, .int 0, .int 45, .int 97, .int 0, .int 0, .int 0, .int 0, .int 0, .ref q1, .int 20, .int 0, .int 0, .int 0])), (q1, .inr (3, [.int 20, .ref q2, .ref q3])), (q2, .inr (2, [.ref q4, .int 1])), (q3, .inr (2, [.ref q5, .int 1])), (q5, .inl (tc 1, 16, .inr (.inl (vp_updL (fun _ => 0) (0 : Int32).toNatClampNeg 20))))]) [4, 0, 1, 2, 3, 5] rfl rfl hI
  have hf_q4 : ∀ x : Nat, κ x < 99 → x ≠ q4 := fun x hx => z_fresh hI x (by rw [hxt.1 x hx]; exact hx)
  obtain ⟨L1, κ1, g1, hx2, hk1, hv2, hI, hn3⟩ := z_poolH (k := 52) (fun j => .long ((vp_updL (fun _ => 0) (0 : Int32).toNatClampNeg 400) j)) hI (by decide) (fun κ9 g9 hκ9 hκ8 hg9 => Or.inr ⟨rfl, 1, 16, 1, (13, 0), fun j => .long ((vp_updL (fun _ => 0) (0 : Int32).toNatClampNeg 400) j), rfl, ⟨_, rfl, fun j hj => rfl⟩, fun j hj => ⟨(hg9 j).symm, _, rfl⟩⟩)
  have hrl := hx2.k hrl (by decide)
  have hxt := hxt.tr hx2
  clear hx2
  have hI := z_part (X' := [(q5, .inl (tc 1, 16, .inr (.inl (vp_updL (fun _ => 0) (0 : Int32).toNatClampNeg 20)))), (p0, .inr (5, [.int i1, .ref rl, .int bg, .int 108, .int 0, .int 0, .int 0, .int 0, .int 45, .int 97, .int 0, .int 0, .int 0, .int 0, .int 0, .ref q1, .int 20, .int 0, .int 0, .int 0])), (q1, .inr (3, [.int 20, .ref q2, .ref q3])), (q2, .inr (2, [.ref q4, .int 1])), (q3, .inr (2, [.ref q5, .int 1]))]) [4, 0, 1, 2, 3] rfl rfl hI
  have hf_q5 : ∀ x : Nat, κ x < 99 → x ≠ q5 := fun x hx => z_fresh hI x (by rw [hxt.1 x hx]; exact hx)
  obtain ⟨L2, κ2, g2, hx2, hk4, hv5, hI, hn6⟩ := z_poolH (k := 53) (fun j => .long ((vp_updL (fun _ => 0) (0 : Int32).toNatClampNeg 20) j)) hI (by decide) (fun κ9 g9 hκ9 hκ8 hg9 => Or.inr ⟨rfl, 1, 16, 1, (13, 0), fun j => .long ((vp_updL (fun _ => 0) (0 : Int32).toNatClampNeg 20) j), rfl, ⟨_, rfl, fun j hj => rfl⟩, fun j hj => ⟨(hg9 j).symm, _, rfl⟩⟩)
  have hv2 := fun j => hx2.g hk1 (by decide) (hv2 j)
  have hrl := hx2.k hrl (by decide)
  have hk1 := hx2.k hk1 (by decide)
  have hxt := hxt.tr hx2
  clear hx2
  have hI := z_part (X' := [(q2, .inr (2, [.ref q4, .int 1])), (p0, .inr (5, [.int i1, .ref rl, .int bg, .int 108, .int 0, .int 0, .int 0, .int 0, .int 45, .int 97, .int 0, .int 0, .int 0, .int 0, .int 0, .ref q1, .int 20, .int 0, .int 0, .int 0])), (q1, .inr (3, [.int 20, .ref q2, .ref q3])), (q3, .inr (2, [.ref q5, .int 1]))]) [2, 0, 1, 3] rfl rfl hI
  have hf_q2 : ∀ x : Nat, κ x < 99 → x ≠ q2 := fun x hx => z_fresh hI x (by rw [hxt.1 x hx]; exact hx)
  obtain ⟨L3, κ3, g3, hx2, hk7, hv8, hI, hn9⟩ := z_poolH (k := 32) (fun j => ([.ref q4, .int 1] : List Value).getD j .null) hI (by decide) (fun κ9 g9 hκ9 hκ8 hg9 => zc_O rfl (zvs_cons ⟨(hg9 0).symm, _, rfl, (hκ9 _ (by rw [hk1]; decide)).trans hk1⟩ rfl (zvs_cons ⟨(hg9 1).symm, _, rfl⟩ rfl zvs_nil)))
  have hv2 := fun j => hx2.g hk1 (by decide) (hv2 j)
  have hv5 := fun j => hx2.g hk4 (by decide) (hv5 j)
  have hrl := hx2.k hrl (by decide)
  have hk1 := hx2.k hk1 (by decide)
  have hk4 := hx2.k hk4 (by decide)
  have hxt := hxt.tr hx2
  clear hx2
  have hf10 : g3 q2 0 = .ref q4 := hv8 0
  have hf11 : g3 q2 1 = .int 1 := hv8 1
  have hI := z_part (X' := [(q3, .inr (2, [.ref q5, .int 1])), (p0, .inr (5, [.int i1, .ref rl, .int bg, .int 108, .int 0, .int 0, .int 0, .int 0, .int 45, .int 97, .int 0, .int 0, .int 0, .int 0, .int 0, .ref q1, .int 20, .int 0, .int 0, .int 0])), (q1, .inr (3, [.int 20, .ref q2, .ref q3]))]) [2, 0, 1] rfl rfl hI
  have hf_q3 : ∀ x : Nat, κ x < 99 → x ≠ q3 := fun x hx => z_fresh hI x (by rw [hxt.1 x hx]; exact hx)
  obtain ⟨L4, κ4, g4, hx2, hk12, hv13, hI, hn14⟩ := z_poolH (k := 33) (fun j => ([.ref q5, .int 1] : List Value).getD j .null) hI (by decide) (fun κ9 g9 hκ9 hκ8 hg9 => zc_O rfl (zvs_cons ⟨(hg9 0).symm, _, rfl, (hκ9 _ (by rw [hk4]; decide)).trans hk4⟩ rfl (zvs_cons ⟨(hg9 1).symm, _, rfl⟩ rfl zvs_nil)))
  have hv2 := fun j => hx2.g hk1 (by decide) (hv2 j)
  have hv5 := fun j => hx2.g hk4 (by decide) (hv5 j)
  have hf10 := hx2.g hk7 (by decide) hf10
  have hf11 := hx2.g hk7 (by decide) hf11
  have hrl := hx2.k hrl (by decide)
  have hk1 := hx2.k hk1 (by decide)
  have hk4 := hx2.k hk4 (by decide)
  have hk7 := hx2.k hk7 (by decide)
  have hxt := hxt.tr hx2
  clear hx2
  have hf15 : g4 q3 0 = .ref q5 := hv13 0
  have hf16 : g4 q3 1 = .int 1 := hv13 1
  have hI := z_part (X' := [(q1, .inr (3, [.int 20, .ref q2, .ref q3])), (p0, .inr (5, [.int i1, .ref rl, .int bg, .int 108, .int 0, .int 0, .int 0, .int 0, .int 45, .int 97, .int 0, .int 0, .int 0, .int 0, .int 0, .ref q1, .int 20, .int 0, .int 0, .int 0]))]) [1, 0] rfl rfl hI
  have hf_q1 : ∀ x : Nat, κ x < 99 → x ≠ q1 := fun x hx => z_fresh hI x (by rw [hxt.1 x hx]; exact hx)
  obtain ⟨L5, κ5, g5, hx2, hk17, hv18, hI, hn19⟩ := z_poolH (k := 3) (fun j => ([.int 20, .ref q2, .ref q3] : List Value).getD j .null) hI (by decide) (fun κ9 g9 hκ9 hκ8 hg9 => zc_O rfl (zvs_cons rfl rfl (zvs_cons ⟨(hg9 1).symm, _, rfl, (hκ9 _ (by rw [hk7]; decide)).trans hk7⟩ rfl (zvs_cons ⟨(hg9 2).symm, _, rfl, (hκ9 _ (by rw [hk12]; decide)).trans hk12⟩ rfl zvs_nil))))
  have hv2 := fun j => hx2.g hk1 (by decide) (hv2 j)
  have hv5 := fun j => hx2.g hk4 (by decide) (hv5 j)
  have hf10 := hx2.g hk7 (by decide) hf10
  have hf11 := hx2.g hk7 (by decide) hf11
  have hf15 := hx2.g hk12 (by decide) hf15
  have hf16 := hx2.g hk12 (by decide) hf16
  have hrl := hx2.k hrl (by decide)
  have hk1 := hx2.k hk1 (by decide)
  have hk4 := hx2.k hk4 (by decide)
  have hk7 := hx2.k hk7 (by decide)
  have hk12 := hx2.k hk12 (by decide)
  have hxt := hxt.tr hx2
  clear hx2
  have hf20 : g5 q1 1 = .ref q2 := hv18 1
  have hf21 : g5 q1 2 = .ref q3 := hv18 2
  have hf_p0 : ∀ x : Nat, κ x < 99 → x ≠ p0 := fun x hx => z_fresh hI x (by rw [hxt.1 x hx]; exact hx)
  obtain ⟨L6, κ6, g6, hx2, hk22, hv23, hI, hn24⟩ := z_poolH (k := 5) (fun j => ([.int i1, .ref rl, .int bg, .int 108, .int 0, .int 0, .int 0, .int 0, .int 45, .int 97, .int 0, .int 0, .int 0, .int 0, .int 0, .ref q1, .int 20, .int 0, .int 0, .int 0] : List Value).getD j .null) hI (by decide) (fun κ9 g9 hκ9 hκ8 hg9 => zc_O rfl (zvs_cons ⟨_, rfl⟩ rfl (zvs_cons ⟨_, rfl, (hκ9 _ (by rw [hrl]; decide)).trans hrl⟩ rfl (zvs_cons (z_bv hbg) rfl (zvs_cons ⟨_, rfl, by decide⟩ rfl (zvs_cons ⟨_, rfl⟩ rfl (zvs_cons ⟨_, rfl, by decide, by decide⟩ rfl (zvs_cons ⟨_, rfl, by decide, by decide⟩ rfl (zvs_cons ⟨_, rfl, by decide, by decide⟩ rfl (zvs_cons ⟨_, rfl, by decide⟩ rfl (zvs_cons ⟨_, rfl, by decide⟩ rfl (zvs_cons ⟨_, rfl⟩ rfl (zvs_cons ⟨_, rfl⟩ rfl (zvs_cons (Or.inl rfl) rfl (zvs_cons (Or.inl rfl) rfl (zvs_cons (Or.inl rfl) rfl (zvs_cons ⟨(hg9 15).symm, _, rfl, (hκ9 _ (by rw [hk17]; decide)).trans hk17⟩ rfl (zvs_cons ⟨_, rfl⟩ rfl (zvs_cons (Or.inl rfl) rfl (zvs_cons (Or.inl rfl) rfl (zvs_cons ⟨(hg9 19).symm, _, rfl⟩ rfl zvs_nil)))))))))))))))))))))
  have hv2 := fun j => hx2.g hk1 (by decide) (hv2 j)
  have hv5 := fun j => hx2.g hk4 (by decide) (hv5 j)
  have hf10 := hx2.g hk7 (by decide) hf10
  have hf11 := hx2.g hk7 (by decide) hf11
  have hf15 := hx2.g hk12 (by decide) hf15
  have hf16 := hx2.g hk12 (by decide) hf16
  have hf20 := hx2.g hk17 (by decide) hf20
  have hf21 := hx2.g hk17 (by decide) hf21
  have hrl := hx2.k hrl (by decide)
  have hk1 := hx2.k hk1 (by decide)
  have hk4 := hx2.k hk4 (by decide)
  have hk7 := hx2.k hk7 (by decide)
  have hk12 := hx2.k hk12 (by decide)
  have hk17 := hx2.k hk17 (by decide)
  have hxt := hxt.tr hx2
  clear hx2
  have hf25 : g6 p0 15 = .ref q1 := hv23 15
  have hf26 : g6 p0 19 = .int 0 := hv23 19
  exact ⟨L6, κ6, g6, hI, hxt, ⟨hk22, hk17, hk7, hk12, hk1, hk4⟩, ⟨hf_p0, hf_q1, hf_q2, hf_q3, hf_q4, hf_q5⟩, ⟨hf25, hf26, hf20, hf21⟩, (zN_one hf10 hf11 hv2 (by decide)), (zN_one hf15 hf16 hv5 (by decide)), (fun x e0 e1 e2 e3 e4 e5 => ((hn24 x e5).trans ((hn19 x e4).trans ((hn14 x e3).trans ((hn9 x e2).trans ((hn6 x e1).trans (hn3 x e0)))))))⟩

set_option maxHeartbeats 4000000 in
set_option maxRecDepth 100000 in
theorem z_start42 {D : va_G} {tc : Nat → ClassId} {A : Nat → Prop} {H0 : Heap} {L : List Nat} {κ : Nat → Nat} {g : Nat → Nat → Value} {H : Heap} {locs : List Loc} {px yr yC yT yk ys yb yq yA yP yh yS yd y0 yha y1 yda y2 yAa yPa ySa : Nat} (h99 : ∀ x, κ x = 99) (hI : zI D tc A H0 [(px, .inr (10, [.ref yr, .ref yC, .ref yT, .ref yk, .ref ys, .ref yq, .ref yP, .ref yS, .int 0, .long 0])), (yr, .inl (tc 4, 3, .inr (.inr (.inr (.inr (va_up (va_up (va_up (fun _ => none) (0 : Int32).toNatClampNeg (some y0)) (1 : Int32).toNatClampNeg (some y1)) (2 : Int32).toNatClampNeg (some y2))))))), (yC, .inl (tc 3, 6, .inr (.inr (.inr (.inr (fun _ => none)))))), (yT, .inl (tc 5, 8, .inr (.inr (.inr (.inr (fun _ => none)))))), (yk, .inr (4, [.ref yb, .ref yA, .long 0, .int 0, .int 0])), (ys, .inr (8, [.int 200, .int 5000, .int 600, .long 0, .long 0, .int 0, .long 0, .long 0, .long 0, .long 0])), (yb, .inr (3, [.int 200, .ref yh, .ref yd])), (yq, .inr (7, [.int 0, .int 0, .int 0, .int 0, .int 0, .int 0, .int 45])), (yA, .inr (2, [.ref yAa, .int 1])), (yP, .inr (2, [.ref yPa, .int 0])), (yh, .inr (2, [.ref yha, .int 1])), (yS, .inr (2, [.ref ySa, .int 0])), (yd, .inr (2, [.ref yda, .int 1])), (y0, .inr (6, [.int 500, .int 500])), (yha, .inl (tc 1, 16, .inr (.inl (vp_updL (fun _ => 0) (0 : Int32).toNatClampNeg 4000)))), (y1, .inr (6, [.int 500, .int 500])), (yda, .inl (tc 1, 16, .inr (.inl (vp_updL (fun _ => 0) (0 : Int32).toNatClampNeg 20)))), (y2, .inr (6, [.int 500, .int 500])), (yAa, .inl (tc 1, 16, .inr (.inl (vp_updL (fun _ => 0) (0 : Int32).toNatClampNeg 20)))), (yPa, .inl (tc 1, 16, .inr (.inl (fun _ => 0)))), (ySa, .inl (tc 1, 16, .inr (.inl (fun _ => 0))))] L κ g H locs) :
    ∃ (L2 : List Nat) (κ2 : Nat → Nat) (g2 : Nat → Nat → Value), zI D tc A H0 [] L2 κ2 g2 H locs ∧ zExt κ g κ2 g2 ∧ κ2 px = 10 ∧ zSd42 κ2 g2 (fun j => ([px, yC, yT, yk, ys, yq, yb] : List Nat).getD j 0) (fun _ => 0) (fun _ => 0) (fun j => ([yh, yd, yA, yP, yS] : List Nat).getD j 0) (fun j => ([yha, yda, yAa, yPa, ySa] : List Nat).getD j 0) 0 0 0 := by
  have hxt : zExt κ g κ g := zExt.rf
  have hI : zI D tc A H0 [(px, .inr (10, [.ref yr, .ref yC, .ref yT, .ref yk, .ref ys, .ref yq, .ref yP, .ref yS, .int 0, .long 0])), (yr, .inl (tc 4, 3, .inr (.inr (.inr (.inr (va_up (va_up (va_up (fun _ => none) (0 : Int32).toNatClampNeg (some y0)) (1 : Int32).toNatClampNeg (some y1)) (2 : Int32).toNatClampNeg (some y2))))))), (yC, .inl (tc 3, 6, .inr (.inr (.inr (.inr (fun _ => none)))))), (yT, .inl (tc 5, 8, .inr (.inr (.inr (.inr (fun _ => none)))))), (yk, .inr (4, [.ref yb, .ref yA, .long 0, .int 0, .int 0])), (ys, .inr (8, [.int 200, .int 5000, .int 600, .long 0, .long 0, .int 0, .long 0, .long 0, .long 0, .long 0])), (yb, .inr (3, [.int 200, .ref yh, .ref yd])), (yq, .inr (7, [.int 0, .int 0, .int 0, .int 0, .int 0, .int 0, .int 45])), (yA, .inr (2, [.ref yAa, .int 1])), (yP, .inr (2, [.ref yPa, .int 0])), (yh, .inr (2, [.ref yha, .int 1])), (yS, .inr (2, [.ref ySa, .int 0])), (yd, .inr (2, [.ref yda, .int 1])), (y0, .inr (6, [.int 500, .int 500])), (yha, .inl (tc 1, 16, .inr (.inl (vp_updL (fun _ => 0) (0 : Int32).toNatClampNeg 4000)))), (y1, .inr (6, [.int 500, .int 500])), (yda, .inl (tc 1, 16, .inr (.inl (vp_updL (fun _ => 0) (0 : Int32).toNatClampNeg 20)))), (y2, .inr (6, [.int 500, .int 500])), (yAa, .inl (tc 1, 16, .inr (.inl (vp_updL (fun _ => 0) (0 : Int32).toNatClampNeg 20)))), (yPa, .inl (tc 1, 16, .inr (.inl (fun _ => 0)))), (ySa, .inl (tc 1, 16, .inr (.inl (fun _ => 0))))] L κ g H locs := hI
  have hI := z_part (X' := [(y0, .inr (6, [.int 500, .int 500])), (px, .inr (10, [.ref yr, .ref yC, .ref yT, .ref yk, .ref ys, .ref yq, .ref yP, .ref yS, .int 0, .long 0])), (yr, .inl (tc 4, 3, .inr (.inr (.inr (.inr (va_up (va_up (va_up (fun _ => none) (0 : Int32).toNatClampNeg (some y0)) (1 : Int32).toNatClampNeg (some y1)) (2 : Int32).toNatClampNeg (some y2))))))), (yC, .inl (tc 3, 6, .inr (.inr (.inr (.inr (fun _ => none)))))), (yT, .inl (tc 5, 8, .inr (.inr (.inr (.inr (fun _ => none)))))), (yk, .inr (4, [.ref yb, .ref yA, .long 0, .int 0, .int 0])), (ys, .inr (8, [.int 200, .int 5000, .int 600, .long 0, .long 0, .int 0, .long 0, .long 0, .long 0, .long 0])), (yb, .inr (3, [.int 200, .ref yh, .ref yd])), (yq, .inr (7, [.int 0, .int 0, .int 0, .int 0, .int 0, .int 0, .int 45])), (yA, .inr (2, [.ref yAa, .int 1])), (yP, .inr (2, [.ref yPa, .int 0])), (yh, .inr (2, [.ref yha, .int 1])), (yS, .inr (2, [.ref ySa, .int 0])), (yd, .inr (2, [.ref yda, .int 1])), (yha, .inl (tc 1, 16, .inr (.inl (vp_updL (fun _ => 0) (0 : Int32).toNatClampNeg 4000)))), (y1, .inr (6, [.int 500, .int 500])), (yda, .inl (tc 1, 16, .inr (.inl (vp_updL (fun _ => 0) (0 : Int32).toNatClampNeg 20)))), (y2, .inr (6, [.int 500, .int 500])), (yAa, .inl (tc 1, 16, .inr (.inl (vp_updL (fun _ => 0) (0 : Int32).toNatClampNeg 20)))), (yPa, .inl (tc 1, 16, .inr (.inl (fun _ => 0)))), (ySa, .inl (tc 1, 16, .inr (.inl (fun _ => 0))))]) [13, 0, 1, 2, 3, 4, 5, 6, 7, 8, 9, 10, 11, 12, 14, 15, 16, 17, 18, 19, 20] rfl rfl hI
  have hf_y0 : ∀ x : Nat, κ x < 99 → x ≠ y0 := fun x hx => z_fresh hI x (by rw [hxt.1 x hx]; exact hx)
  obtain ⟨L1, κ1, g1, hx2, hk1, hv2, hI, hn3⟩ := z_poolH (k := 6) (fun _ => .null) hI (by decide) (fun κ9 g9 hκ9 hκ8 hg9 => zc_O rfl (zvs_cons ⟨_, rfl, by decide, by decide⟩ rfl (zvs_cons ⟨_, rfl, by decide, by decide⟩ rfl zvs_nil)))
  have hxt := hxt.tr hx2
  clear hx2
  have hI := z_part (X' := [(y1, .inr (6, [.int 500, .int 500])), (px, .inr (10, [.ref yr, .ref yC, .ref yT, .ref yk, .ref ys, .ref yq, .ref yP, .ref yS, .int 0, .long 0])), (yr, .inl (tc 4, 3, .inr (.inr (.inr (.inr (va_up (va_up (va_up (fun _ => none) (0 : Int32).toNatClampNeg (some y0)) (1 : Int32).toNatClampNeg (some y1)) (2 : Int32).toNatClampNeg (some y2))))))), (yC, .inl (tc 3, 6, .inr (.inr (.inr (.inr (fun _ => none)))))), (yT, .inl (tc 5, 8, .inr (.inr (.inr (.inr (fun _ => none)))))), (yk, .inr (4, [.ref yb, .ref yA, .long 0, .int 0, .int 0])), (ys, .inr (8, [.int 200, .int 5000, .int 600, .long 0, .long 0, .int 0, .long 0, .long 0, .long 0, .long 0])), (yb, .inr (3, [.int 200, .ref yh, .ref yd])), (yq, .inr (7, [.int 0, .int 0, .int 0, .int 0, .int 0, .int 0, .int 45])), (yA, .inr (2, [.ref yAa, .int 1])), (yP, .inr (2, [.ref yPa, .int 0])), (yh, .inr (2, [.ref yha, .int 1])), (yS, .inr (2, [.ref ySa, .int 0])), (yd, .inr (2, [.ref yda, .int 1])), (yha, .inl (tc 1, 16, .inr (.inl (vp_updL (fun _ => 0) (0 : Int32).toNatClampNeg 4000)))), (yda, .inl (tc 1, 16, .inr (.inl (vp_updL (fun _ => 0) (0 : Int32).toNatClampNeg 20)))), (y2, .inr (6, [.int 500, .int 500])), (yAa, .inl (tc 1, 16, .inr (.inl (vp_updL (fun _ => 0) (0 : Int32).toNatClampNeg 20)))), (yPa, .inl (tc 1, 16, .inr (.inl (fun _ => 0)))), (ySa, .inl (tc 1, 16, .inr (.inl (fun _ => 0))))]) [14, 0, 1, 2, 3, 4, 5, 6, 7, 8, 9, 10, 11, 12, 13, 15, 16, 17, 18, 19] rfl rfl hI
  have hf_y1 : ∀ x : Nat, κ x < 99 → x ≠ y1 := fun x hx => z_fresh hI x (by rw [hxt.1 x hx]; exact hx)
  obtain ⟨L2, κ2, g2, hx2, hk4, hv5, hI, hn6⟩ := z_poolH (k := 6) (fun _ => .null) hI (by decide) (fun κ9 g9 hκ9 hκ8 hg9 => zc_O rfl (zvs_cons ⟨_, rfl, by decide, by decide⟩ rfl (zvs_cons ⟨_, rfl, by decide, by decide⟩ rfl zvs_nil)))
  have hk1 := hx2.k hk1 (by decide)
  have hxt := hxt.tr hx2
  clear hx2
  have hI := z_part (X' := [(y2, .inr (6, [.int 500, .int 500])), (px, .inr (10, [.ref yr, .ref yC, .ref yT, .ref yk, .ref ys, .ref yq, .ref yP, .ref yS, .int 0, .long 0])), (yr, .inl (tc 4, 3, .inr (.inr (.inr (.inr (va_up (va_up (va_up (fun _ => none) (0 : Int32).toNatClampNeg (some y0)) (1 : Int32).toNatClampNeg (some y1)) (2 : Int32).toNatClampNeg (some y2))))))), (yC, .inl (tc 3, 6, .inr (.inr (.inr (.inr (fun _ => none)))))), (yT, .inl (tc 5, 8, .inr (.inr (.inr (.inr (fun _ => none)))))), (yk, .inr (4, [.ref yb, .ref yA, .long 0, .int 0, .int 0])), (ys, .inr (8, [.int 200, .int 5000, .int 600, .long 0, .long 0, .int 0, .long 0, .long 0, .long 0, .long 0])), (yb, .inr (3, [.int 200, .ref yh, .ref yd])), (yq, .inr (7, [.int 0, .int 0, .int 0, .int 0, .int 0, .int 0, .int 45])), (yA, .inr (2, [.ref yAa, .int 1])), (yP, .inr (2, [.ref yPa, .int 0])), (yh, .inr (2, [.ref yha, .int 1])), (yS, .inr (2, [.ref ySa, .int 0])), (yd, .inr (2, [.ref yda, .int 1])), (yha, .inl (tc 1, 16, .inr (.inl (vp_updL (fun _ => 0) (0 : Int32).toNatClampNeg 4000)))), (yda, .inl (tc 1, 16, .inr (.inl (vp_updL (fun _ => 0) (0 : Int32).toNatClampNeg 20)))), (yAa, .inl (tc 1, 16, .inr (.inl (vp_updL (fun _ => 0) (0 : Int32).toNatClampNeg 20)))), (yPa, .inl (tc 1, 16, .inr (.inl (fun _ => 0)))), (ySa, .inl (tc 1, 16, .inr (.inl (fun _ => 0))))]) [15, 0, 1, 2, 3, 4, 5, 6, 7, 8, 9, 10, 11, 12, 13, 14, 16, 17, 18] rfl rfl hI
  have hf_y2 : ∀ x : Nat, κ x < 99 → x ≠ y2 := fun x hx => z_fresh hI x (by rw [hxt.1 x hx]; exact hx)
  obtain ⟨L3, κ3, g3, hx2, hk7, hv8, hI, hn9⟩ := z_poolH (k := 6) (fun _ => .null) hI (by decide) (fun κ9 g9 hκ9 hκ8 hg9 => zc_O rfl (zvs_cons ⟨_, rfl, by decide, by decide⟩ rfl (zvs_cons ⟨_, rfl, by decide, by decide⟩ rfl zvs_nil)))
  have hk1 := hx2.k hk1 (by decide)
  have hk4 := hx2.k hk4 (by decide)
  have hxt := hxt.tr hx2
  clear hx2
  have hI := z_part (X' := [(yr, .inl (tc 4, 3, .inr (.inr (.inr (.inr (va_up (va_up (va_up (fun _ => none) (0 : Int32).toNatClampNeg (some y0)) (1 : Int32).toNatClampNeg (some y1)) (2 : Int32).toNatClampNeg (some y2))))))), (px, .inr (10, [.ref yr, .ref yC, .ref yT, .ref yk, .ref ys, .ref yq, .ref yP, .ref yS, .int 0, .long 0])), (yC, .inl (tc 3, 6, .inr (.inr (.inr (.inr (fun _ => none)))))), (yT, .inl (tc 5, 8, .inr (.inr (.inr (.inr (fun _ => none)))))), (yk, .inr (4, [.ref yb, .ref yA, .long 0, .int 0, .int 0])), (ys, .inr (8, [.int 200, .int 5000, .int 600, .long 0, .long 0, .int 0, .long 0, .long 0, .long 0, .long 0])), (yb, .inr (3, [.int 200, .ref yh, .ref yd])), (yq, .inr (7, [.int 0, .int 0, .int 0, .int 0, .int 0, .int 0, .int 45])), (yA, .inr (2, [.ref yAa, .int 1])), (yP, .inr (2, [.ref yPa, .int 0])), (yh, .inr (2, [.ref yha, .int 1])), (yS, .inr (2, [.ref ySa, .int 0])), (yd, .inr (2, [.ref yda, .int 1])), (yha, .inl (tc 1, 16, .inr (.inl (vp_updL (fun _ => 0) (0 : Int32).toNatClampNeg 4000)))), (yda, .inl (tc 1, 16, .inr (.inl (vp_updL (fun _ => 0) (0 : Int32).toNatClampNeg 20)))), (yAa, .inl (tc 1, 16, .inr (.inl (vp_updL (fun _ => 0) (0 : Int32).toNatClampNeg 20)))), (yPa, .inl (tc 1, 16, .inr (.inl (fun _ => 0)))), (ySa, .inl (tc 1, 16, .inr (.inl (fun _ => 0))))]) [1, 0, 2, 3, 4, 5, 6, 7, 8, 9, 10, 11, 12, 13, 14, 15, 16, 17] rfl rfl hI
  have hf_yr : ∀ x : Nat, κ x < 99 → x ≠ yr := fun x hx => z_fresh hI x (by rw [hxt.1 x hx]; exact hx)
  obtain ⟨L4, κ4, g4, hx2, hk10, hv11, hI, hn12⟩ := z_poolH (k := 22) (fun _ => .null) hI (by decide) (fun κ9 g9 hκ9 hκ8 hg9 => Or.inr ⟨rfl, 4, 3, 4, (1, 6), fun j => va_rf ((va_up (va_up (va_up (fun _ => none) (0 : Int32).toNatClampNeg (some y0)) (1 : Int32).toNatClampNeg (some y1)) (2 : Int32).toNatClampNeg (some y2)) j), rfl, ⟨_, rfl, fun j hj => rfl⟩, fun j hj => by (rcases (show j = 0 ∨ j = 1 ∨ j = 2 by omega) with rfl | rfl | rfl) <;> first | exact ⟨y0, rfl, (hκ9 _ (by rw [hk1]; decide)).trans hk1⟩ | exact ⟨y1, rfl, (hκ9 _ (by rw [hk4]; decide)).trans hk4⟩ | exact ⟨y2, rfl, (hκ9 _ (by rw [hk7]; decide)).trans hk7⟩⟩)
  have hk1 := hx2.k hk1 (by decide)
  have hk4 := hx2.k hk4 (by decide)
  have hk7 := hx2.k hk7 (by decide)
  have hxt := hxt.tr hx2
  clear hx2
  have hI := z_part (X' := [(yC, .inl (tc 3, 6, .inr (.inr (.inr (.inr (fun _ => none)))))), (px, .inr (10, [.ref yr, .ref yC, .ref yT, .ref yk, .ref ys, .ref yq, .ref yP, .ref yS, .int 0, .long 0])), (yT, .inl (tc 5, 8, .inr (.inr (.inr (.inr (fun _ => none)))))), (yk, .inr (4, [.ref yb, .ref yA, .long 0, .int 0, .int 0])), (ys, .inr (8, [.int 200, .int 5000, .int 600, .long 0, .long 0, .int 0, .long 0, .long 0, .long 0, .long 0])), (yb, .inr (3, [.int 200, .ref yh, .ref yd])), (yq, .inr (7, [.int 0, .int 0, .int 0, .int 0, .int 0, .int 0, .int 45])), (yA, .inr (2, [.ref yAa, .int 1])), (yP, .inr (2, [.ref yPa, .int 0])), (yh, .inr (2, [.ref yha, .int 1])), (yS, .inr (2, [.ref ySa, .int 0])), (yd, .inr (2, [.ref yda, .int 1])), (yha, .inl (tc 1, 16, .inr (.inl (vp_updL (fun _ => 0) (0 : Int32).toNatClampNeg 4000)))), (yda, .inl (tc 1, 16, .inr (.inl (vp_updL (fun _ => 0) (0 : Int32).toNatClampNeg 20)))), (yAa, .inl (tc 1, 16, .inr (.inl (vp_updL (fun _ => 0) (0 : Int32).toNatClampNeg 20)))), (yPa, .inl (tc 1, 16, .inr (.inl (fun _ => 0)))), (ySa, .inl (tc 1, 16, .inr (.inl (fun _ => 0))))]) [1, 0, 2, 3, 4, 5, 6, 7, 8, 9, 10, 11, 12, 13, 14, 15, 16] rfl rfl hI
  have hf_yC : ∀ x : Nat, κ x < 99 → x ≠ yC := fun x hx => z_fresh hI x (by rw [hxt.1 x hx]; exact hx)
  obtain ⟨L5, κ5, g5, hx2, hk13, hv14, hI, hn15⟩ := z_poolH (k := 23) (fun _ => .null) hI (by decide) (fun κ9 g9 hκ9 hκ8 hg9 => Or.inr ⟨rfl, 3, 6, 4, (12, 5), fun j => .null, rfl, ⟨_, rfl, fun j hj => rfl⟩, fun j hj => ⟨(hg9 j).symm, Or.inl rfl⟩⟩)
  have hk1 := hx2.k hk1 (by decide)
  have hk4 := hx2.k hk4 (by decide)
  have hk7 := hx2.k hk7 (by decide)
  have hk10 := hx2.k hk10 (by decide)
  have hxt := hxt.tr hx2
  clear hx2
  have hI := z_part (X' := [(yT, .inl (tc 5, 8, .inr (.inr (.inr (.inr (fun _ => none)))))), (px, .inr (10, [.ref yr, .ref yC, .ref yT, .ref yk, .ref ys, .ref yq, .ref yP, .ref yS, .int 0, .long 0])), (yk, .inr (4, [.ref yb, .ref yA, .long 0, .int 0, .int 0])), (ys, .inr (8, [.int 200, .int 5000, .int 600, .long 0, .long 0, .int 0, .long 0, .long 0, .long 0, .long 0])), (yb, .inr (3, [.int 200, .ref yh, .ref yd])), (yq, .inr (7, [.int 0, .int 0, .int 0, .int 0, .int 0, .int 0, .int 45])), (yA, .inr (2, [.ref yAa, .int 1])), (yP, .inr (2, [.ref yPa, .int 0])), (yh, .inr (2, [.ref yha, .int 1])), (yS, .inr (2, [.ref ySa, .int 0])), (yd, .inr (2, [.ref yda, .int 1])), (yha, .inl (tc 1, 16, .inr (.inl (vp_updL (fun _ => 0) (0 : Int32).toNatClampNeg 4000)))), (yda, .inl (tc 1, 16, .inr (.inl (vp_updL (fun _ => 0) (0 : Int32).toNatClampNeg 20)))), (yAa, .inl (tc 1, 16, .inr (.inl (vp_updL (fun _ => 0) (0 : Int32).toNatClampNeg 20)))), (yPa, .inl (tc 1, 16, .inr (.inl (fun _ => 0)))), (ySa, .inl (tc 1, 16, .inr (.inl (fun _ => 0))))]) [1, 0, 2, 3, 4, 5, 6, 7, 8, 9, 10, 11, 12, 13, 14, 15] rfl rfl hI
  have hf_yT : ∀ x : Nat, κ x < 99 → x ≠ yT := fun x hx => z_fresh hI x (by rw [hxt.1 x hx]; exact hx)
  obtain ⟨L6, κ6, g6, hx2, hk16, hv17, hI, hn18⟩ := z_poolH (k := 24) (fun _ => .null) hI (by decide) (fun κ9 g9 hκ9 hκ8 hg9 => Or.inr ⟨rfl, 5, 8, 4, (12, 9), fun j => .null, rfl, ⟨_, rfl, fun j hj => rfl⟩, fun j hj => ⟨(hg9 j).symm, Or.inl rfl⟩⟩)
  have hv14 := fun j => hx2.g hk13 (by decide) (hv14 j)
  have hk1 := hx2.k hk1 (by decide)
  have hk4 := hx2.k hk4 (by decide)
  have hk7 := hx2.k hk7 (by decide)
  have hk10 := hx2.k hk10 (by decide)
  have hk13 := hx2.k hk13 (by decide)
  have hxt := hxt.tr hx2
  clear hx2
  have hI := z_part (X' := [(yha, .inl (tc 1, 16, .inr (.inl (vp_updL (fun _ => 0) (0 : Int32).toNatClampNeg 4000)))), (px, .inr (10, [.ref yr, .ref yC, .ref yT, .ref yk, .ref ys, .ref yq, .ref yP, .ref yS, .int 0, .long 0])), (yk, .inr (4, [.ref yb, .ref yA, .long 0, .int 0, .int 0])), (ys, .inr (8, [.int 200, .int 5000, .int 600, .long 0, .long 0, .int 0, .long 0, .long 0, .long 0, .long 0])), (yb, .inr (3, [.int 200, .ref yh, .ref yd])), (yq, .inr (7, [.int 0, .int 0, .int 0, .int 0, .int 0, .int 0, .int 45])), (yA, .inr (2, [.ref yAa, .int 1])), (yP, .inr (2, [.ref yPa, .int 0])), (yh, .inr (2, [.ref yha, .int 1])), (yS, .inr (2, [.ref ySa, .int 0])), (yd, .inr (2, [.ref yda, .int 1])), (yda, .inl (tc 1, 16, .inr (.inl (vp_updL (fun _ => 0) (0 : Int32).toNatClampNeg 20)))), (yAa, .inl (tc 1, 16, .inr (.inl (vp_updL (fun _ => 0) (0 : Int32).toNatClampNeg 20)))), (yPa, .inl (tc 1, 16, .inr (.inl (fun _ => 0)))), (ySa, .inl (tc 1, 16, .inr (.inl (fun _ => 0))))]) [10, 0, 1, 2, 3, 4, 5, 6, 7, 8, 9, 11, 12, 13, 14] rfl rfl hI
  have hf_yha : ∀ x : Nat, κ x < 99 → x ≠ yha := fun x hx => z_fresh hI x (by rw [hxt.1 x hx]; exact hx)
  obtain ⟨L7, κ7, g7, hx2, hk19, hv20, hI, hn21⟩ := z_poolH (k := 54) (fun j => .long ((vp_updL (fun _ => 0) (0 : Int32).toNatClampNeg 4000) j)) hI (by decide) (fun κ9 g9 hκ9 hκ8 hg9 => Or.inr ⟨rfl, 1, 16, 1, (13, 0), fun j => .long ((vp_updL (fun _ => 0) (0 : Int32).toNatClampNeg 4000) j), rfl, ⟨_, rfl, fun j hj => rfl⟩, fun j hj => ⟨(hg9 j).symm, _, rfl⟩⟩)
  have hv14 := fun j => hx2.g hk13 (by decide) (hv14 j)
  have hv17 := fun j => hx2.g hk16 (by decide) (hv17 j)
  have hk1 := hx2.k hk1 (by decide)
  have hk4 := hx2.k hk4 (by decide)
  have hk7 := hx2.k hk7 (by decide)
  have hk10 := hx2.k hk10 (by decide)
  have hk13 := hx2.k hk13 (by decide)
  have hk16 := hx2.k hk16 (by decide)
  have hxt := hxt.tr hx2
  clear hx2
  have hI := z_part (X' := [(yda, .inl (tc 1, 16, .inr (.inl (vp_updL (fun _ => 0) (0 : Int32).toNatClampNeg 20)))), (px, .inr (10, [.ref yr, .ref yC, .ref yT, .ref yk, .ref ys, .ref yq, .ref yP, .ref yS, .int 0, .long 0])), (yk, .inr (4, [.ref yb, .ref yA, .long 0, .int 0, .int 0])), (ys, .inr (8, [.int 200, .int 5000, .int 600, .long 0, .long 0, .int 0, .long 0, .long 0, .long 0, .long 0])), (yb, .inr (3, [.int 200, .ref yh, .ref yd])), (yq, .inr (7, [.int 0, .int 0, .int 0, .int 0, .int 0, .int 0, .int 45])), (yA, .inr (2, [.ref yAa, .int 1])), (yP, .inr (2, [.ref yPa, .int 0])), (yh, .inr (2, [.ref yha, .int 1])), (yS, .inr (2, [.ref ySa, .int 0])), (yd, .inr (2, [.ref yda, .int 1])), (yAa, .inl (tc 1, 16, .inr (.inl (vp_updL (fun _ => 0) (0 : Int32).toNatClampNeg 20)))), (yPa, .inl (tc 1, 16, .inr (.inl (fun _ => 0)))), (ySa, .inl (tc 1, 16, .inr (.inl (fun _ => 0))))]) [10, 0, 1, 2, 3, 4, 5, 6, 7, 8, 9, 11, 12, 13] rfl rfl hI
  have hf_yda : ∀ x : Nat, κ x < 99 → x ≠ yda := fun x hx => z_fresh hI x (by rw [hxt.1 x hx]; exact hx)
  obtain ⟨L8, κ8, g8, hx2, hk22, hv23, hI, hn24⟩ := z_poolH (k := 55) (fun j => .long ((vp_updL (fun _ => 0) (0 : Int32).toNatClampNeg 20) j)) hI (by decide) (fun κ9 g9 hκ9 hκ8 hg9 => Or.inr ⟨rfl, 1, 16, 1, (13, 0), fun j => .long ((vp_updL (fun _ => 0) (0 : Int32).toNatClampNeg 20) j), rfl, ⟨_, rfl, fun j hj => rfl⟩, fun j hj => ⟨(hg9 j).symm, _, rfl⟩⟩)
  have hv14 := fun j => hx2.g hk13 (by decide) (hv14 j)
  have hv17 := fun j => hx2.g hk16 (by decide) (hv17 j)
  have hv20 := fun j => hx2.g hk19 (by decide) (hv20 j)
  have hk1 := hx2.k hk1 (by decide)
  have hk4 := hx2.k hk4 (by decide)
  have hk7 := hx2.k hk7 (by decide)
  have hk10 := hx2.k hk10 (by decide)
  have hk13 := hx2.k hk13 (by decide)
  have hk16 := hx2.k hk16 (by decide)
  have hk19 := hx2.k hk19 (by decide)
  have hxt := hxt.tr hx2
  clear hx2
  have hI := z_part (X' := [(yAa, .inl (tc 1, 16, .inr (.inl (vp_updL (fun _ => 0) (0 : Int32).toNatClampNeg 20)))), (px, .inr (10, [.ref yr, .ref yC, .ref yT, .ref yk, .ref ys, .ref yq, .ref yP, .ref yS, .int 0, .long 0])), (yk, .inr (4, [.ref yb, .ref yA, .long 0, .int 0, .int 0])), (ys, .inr (8, [.int 200, .int 5000, .int 600, .long 0, .long 0, .int 0, .long 0, .long 0, .long 0, .long 0])), (yb, .inr (3, [.int 200, .ref yh, .ref yd])), (yq, .inr (7, [.int 0, .int 0, .int 0, .int 0, .int 0, .int 0, .int 45])), (yA, .inr (2, [.ref yAa, .int 1])), (yP, .inr (2, [.ref yPa, .int 0])), (yh, .inr (2, [.ref yha, .int 1])), (yS, .inr (2, [.ref ySa, .int 0])), (yd, .inr (2, [.ref yda, .int 1])), (yPa, .inl (tc 1, 16, .inr (.inl (fun _ => 0)))), (ySa, .inl (tc 1, 16, .inr (.inl (fun _ => 0))))]) [10, 0, 1, 2, 3, 4, 5, 6, 7, 8, 9, 11, 12] rfl rfl hI
  have hf_yAa : ∀ x : Nat, κ x < 99 → x ≠ yAa := fun x hx => z_fresh hI x (by rw [hxt.1 x hx]; exact hx)
  obtain ⟨L9, κ9, g9, hx2, hk25, hv26, hI, hn27⟩ := z_poolH (k := 56) (fun j => .long ((vp_updL (fun _ => 0) (0 : Int32).toNatClampNeg 20) j)) hI (by decide) (fun κ9 g9 hκ9 hκ8 hg9 => Or.inr ⟨rfl, 1, 16, 1, (13, 0), fun j => .long ((vp_updL (fun _ => 0) (0 : Int32).toNatClampNeg 20) j), rfl, ⟨_, rfl, fun j hj => rfl⟩, fun j hj => ⟨(hg9 j).symm, _, rfl⟩⟩)
  have hv14 := fun j => hx2.g hk13 (by decide) (hv14 j)
  have hv17 := fun j => hx2.g hk16 (by decide) (hv17 j)
  have hv20 := fun j => hx2.g hk19 (by decide) (hv20 j)
  have hv23 := fun j => hx2.g hk22 (by decide) (hv23 j)
  have hk1 := hx2.k hk1 (by decide)
  have hk4 := hx2.k hk4 (by decide)
  have hk7 := hx2.k hk7 (by decide)
  have hk10 := hx2.k hk10 (by decide)
  have hk13 := hx2.k hk13 (by decide)
  have hk16 := hx2.k hk16 (by decide)
  have hk19 := hx2.k hk19 (by decide)
  have hk22 := hx2.k hk22 (by decide)
  have hxt := hxt.tr hx2
  clear hx2
  have hI := z_part (X' := [(yPa, .inl (tc 1, 16, .inr (.inl (fun _ => 0)))), (px, .inr (10, [.ref yr, .ref yC, .ref yT, .ref yk, .ref ys, .ref yq, .ref yP, .ref yS, .int 0, .long 0])), (yk, .inr (4, [.ref yb, .ref yA, .long 0, .int 0, .int 0])), (ys, .inr (8, [.int 200, .int 5000, .int 600, .long 0, .long 0, .int 0, .long 0, .long 0, .long 0, .long 0])), (yb, .inr (3, [.int 200, .ref yh, .ref yd])), (yq, .inr (7, [.int 0, .int 0, .int 0, .int 0, .int 0, .int 0, .int 45])), (yA, .inr (2, [.ref yAa, .int 1])), (yP, .inr (2, [.ref yPa, .int 0])), (yh, .inr (2, [.ref yha, .int 1])), (yS, .inr (2, [.ref ySa, .int 0])), (yd, .inr (2, [.ref yda, .int 1])), (ySa, .inl (tc 1, 16, .inr (.inl (fun _ => 0))))]) [10, 0, 1, 2, 3, 4, 5, 6, 7, 8, 9, 11] rfl rfl hI
  have hf_yPa : ∀ x : Nat, κ x < 99 → x ≠ yPa := fun x hx => z_fresh hI x (by rw [hxt.1 x hx]; exact hx)
  obtain ⟨L10, κ10, g10, hx2, hk28, hv29, hI, hn30⟩ := z_poolH (k := 57) (fun j => .long ((fun _ => 0) j)) hI (by decide) (fun κ9 g9 hκ9 hκ8 hg9 => Or.inr ⟨rfl, 1, 16, 1, (13, 0), fun j => .long ((fun _ => 0) j), rfl, ⟨_, rfl, fun j hj => rfl⟩, fun j hj => ⟨(hg9 j).symm, _, rfl⟩⟩)
  have hv14 := fun j => hx2.g hk13 (by decide) (hv14 j)
  have hv17 := fun j => hx2.g hk16 (by decide) (hv17 j)
  have hv20 := fun j => hx2.g hk19 (by decide) (hv20 j)
  have hv23 := fun j => hx2.g hk22 (by decide) (hv23 j)
  have hv26 := fun j => hx2.g hk25 (by decide) (hv26 j)
  have hk1 := hx2.k hk1 (by decide)
  have hk4 := hx2.k hk4 (by decide)
  have hk7 := hx2.k hk7 (by decide)
  have hk10 := hx2.k hk10 (by decide)
  have hk13 := hx2.k hk13 (by decide)
  have hk16 := hx2.k hk16 (by decide)
  have hk19 := hx2.k hk19 (by decide)
  have hk22 := hx2.k hk22 (by decide)
  have hk25 := hx2.k hk25 (by decide)
  have hxt := hxt.tr hx2
  clear hx2
  have hI := z_part (X' := [(ySa, .inl (tc 1, 16, .inr (.inl (fun _ => 0)))), (px, .inr (10, [.ref yr, .ref yC, .ref yT, .ref yk, .ref ys, .ref yq, .ref yP, .ref yS, .int 0, .long 0])), (yk, .inr (4, [.ref yb, .ref yA, .long 0, .int 0, .int 0])), (ys, .inr (8, [.int 200, .int 5000, .int 600, .long 0, .long 0, .int 0, .long 0, .long 0, .long 0, .long 0])), (yb, .inr (3, [.int 200, .ref yh, .ref yd])), (yq, .inr (7, [.int 0, .int 0, .int 0, .int 0, .int 0, .int 0, .int 45])), (yA, .inr (2, [.ref yAa, .int 1])), (yP, .inr (2, [.ref yPa, .int 0])), (yh, .inr (2, [.ref yha, .int 1])), (yS, .inr (2, [.ref ySa, .int 0])), (yd, .inr (2, [.ref yda, .int 1]))]) [10, 0, 1, 2, 3, 4, 5, 6, 7, 8, 9] rfl rfl hI
  have hf_ySa : ∀ x : Nat, κ x < 99 → x ≠ ySa := fun x hx => z_fresh hI x (by rw [hxt.1 x hx]; exact hx)
  obtain ⟨L11, κ11, g11, hx2, hk31, hv32, hI, hn33⟩ := z_poolH (k := 58) (fun j => .long ((fun _ => 0) j)) hI (by decide) (fun κ9 g9 hκ9 hκ8 hg9 => Or.inr ⟨rfl, 1, 16, 1, (13, 0), fun j => .long ((fun _ => 0) j), rfl, ⟨_, rfl, fun j hj => rfl⟩, fun j hj => ⟨(hg9 j).symm, _, rfl⟩⟩)
  have hv14 := fun j => hx2.g hk13 (by decide) (hv14 j)
  have hv17 := fun j => hx2.g hk16 (by decide) (hv17 j)
  have hv20 := fun j => hx2.g hk19 (by decide) (hv20 j)
  have hv23 := fun j => hx2.g hk22 (by decide) (hv23 j)
  have hv26 := fun j => hx2.g hk25 (by decide) (hv26 j)
  have hv29 := fun j => hx2.g hk28 (by decide) (hv29 j)
  have hk1 := hx2.k hk1 (by decide)
  have hk4 := hx2.k hk4 (by decide)
  have hk7 := hx2.k hk7 (by decide)
  have hk10 := hx2.k hk10 (by decide)
  have hk13 := hx2.k hk13 (by decide)
  have hk16 := hx2.k hk16 (by decide)
  have hk19 := hx2.k hk19 (by decide)
  have hk22 := hx2.k hk22 (by decide)
  have hk25 := hx2.k hk25 (by decide)
  have hk28 := hx2.k hk28 (by decide)
  have hxt := hxt.tr hx2
  clear hx2
  have hI := z_part (X' := [(yh, .inr (2, [.ref yha, .int 1])), (px, .inr (10, [.ref yr, .ref yC, .ref yT, .ref yk, .ref ys, .ref yq, .ref yP, .ref yS, .int 0, .long 0])), (yk, .inr (4, [.ref yb, .ref yA, .long 0, .int 0, .int 0])), (ys, .inr (8, [.int 200, .int 5000, .int 600, .long 0, .long 0, .int 0, .long 0, .long 0, .long 0, .long 0])), (yb, .inr (3, [.int 200, .ref yh, .ref yd])), (yq, .inr (7, [.int 0, .int 0, .int 0, .int 0, .int 0, .int 0, .int 45])), (yA, .inr (2, [.ref yAa, .int 1])), (yP, .inr (2, [.ref yPa, .int 0])), (yS, .inr (2, [.ref ySa, .int 0])), (yd, .inr (2, [.ref yda, .int 1]))]) [7, 0, 1, 2, 3, 4, 5, 6, 8, 9] rfl rfl hI
  have hf_yh : ∀ x : Nat, κ x < 99 → x ≠ yh := fun x hx => z_fresh hI x (by rw [hxt.1 x hx]; exact hx)
  obtain ⟨L12, κ12, g12, hx2, hk34, hv35, hI, hn36⟩ := z_poolH (k := 34) (fun j => ([.ref yha, .int 1] : List Value).getD j .null) hI (by decide) (fun κ9 g9 hκ9 hκ8 hg9 => zc_O rfl (zvs_cons ⟨(hg9 0).symm, _, rfl, (hκ9 _ (by rw [hk19]; decide)).trans hk19⟩ rfl (zvs_cons ⟨(hg9 1).symm, _, rfl⟩ rfl zvs_nil)))
  have hv14 := fun j => hx2.g hk13 (by decide) (hv14 j)
  have hv17 := fun j => hx2.g hk16 (by decide) (hv17 j)
  have hv20 := fun j => hx2.g hk19 (by decide) (hv20 j)
  have hv23 := fun j => hx2.g hk22 (by decide) (hv23 j)
  have hv26 := fun j => hx2.g hk25 (by decide) (hv26 j)
  have hv29 := fun j => hx2.g hk28 (by decide) (hv29 j)
  have hv32 := fun j => hx2.g hk31 (by decide) (hv32 j)
  have hk1 := hx2.k hk1 (by decide)
  have hk4 := hx2.k hk4 (by decide)
  have hk7 := hx2.k hk7 (by decide)
  have hk10 := hx2.k hk10 (by decide)
  have hk13 := hx2.k hk13 (by decide)
  have hk16 := hx2.k hk16 (by decide)
  have hk19 := hx2.k hk19 (by decide)
  have hk22 := hx2.k hk22 (by decide)
  have hk25 := hx2.k hk25 (by decide)
  have hk28 := hx2.k hk28 (by decide)
  have hk31 := hx2.k hk31 (by decide)
  have hxt := hxt.tr hx2
  clear hx2
  have hf37 : g12 yh 0 = .ref yha := hv35 0
  have hf38 : g12 yh 1 = .int 1 := hv35 1
  have hI := z_part (X' := [(yd, .inr (2, [.ref yda, .int 1])), (px, .inr (10, [.ref yr, .ref yC, .ref yT, .ref yk, .ref ys, .ref yq, .ref yP, .ref yS, .int 0, .long 0])), (yk, .inr (4, [.ref yb, .ref yA, .long 0, .int 0, .int 0])), (ys, .inr (8, [.int 200, .int 5000, .int 600, .long 0, .long 0, .int 0, .long 0, .long 0, .long 0, .long 0])), (yb, .inr (3, [.int 200, .ref yh, .ref yd])), (yq, .inr (7, [.int 0, .int 0, .int 0, .int 0, .int 0, .int 0, .int 45])), (yA, .inr (2, [.ref yAa, .int 1])), (yP, .inr (2, [.ref yPa, .int 0])), (yS, .inr (2, [.ref ySa, .int 0]))]) [8, 0, 1, 2, 3, 4, 5, 6, 7] rfl rfl hI
  have hf_yd : ∀ x : Nat, κ x < 99 → x ≠ yd := fun x hx => z_fresh hI x (by rw [hxt.1 x hx]; exact hx)
  obtain ⟨L13, κ13, g13, hx2, hk39, hv40, hI, hn41⟩ := z_poolH (k := 35) (fun j => ([.ref yda, .int 1] : List Value).getD j .null) hI (by decide) (fun κ9 g9 hκ9 hκ8 hg9 => zc_O rfl (zvs_cons ⟨(hg9 0).symm, _, rfl, (hκ9 _ (by rw [hk22]; decide)).trans hk22⟩ rfl (zvs_cons ⟨(hg9 1).symm, _, rfl⟩ rfl zvs_nil)))
  have hv14 := fun j => hx2.g hk13 (by decide) (hv14 j)
  have hv17 := fun j => hx2.g hk16 (by decide) (hv17 j)
  have hv20 := fun j => hx2.g hk19 (by decide) (hv20 j)
  have hv23 := fun j => hx2.g hk22 (by decide) (hv23 j)
  have hv26 := fun j => hx2.g hk25 (by decide) (hv26 j)
  have hv29 := fun j => hx2.g hk28 (by decide) (hv29 j)
  have hv32 := fun j => hx2.g hk31 (by decide) (hv32 j)
  have hf37 := hx2.g hk34 (by decide) hf37
  have hf38 := hx2.g hk34 (by decide) hf38
  have hk1 := hx2.k hk1 (by decide)
  have hk4 := hx2.k hk4 (by decide)
  have hk7 := hx2.k hk7 (by decide)
  have hk10 := hx2.k hk10 (by decide)
  have hk13 := hx2.k hk13 (by decide)
  have hk16 := hx2.k hk16 (by decide)
  have hk19 := hx2.k hk19 (by decide)
  have hk22 := hx2.k hk22 (by decide)
  have hk25 := hx2.k hk25 (by decide)
  have hk28 := hx2.k hk28 (by decide)
  have hk31 := hx2.k hk31 (by decide)
  have hk34 := hx2.k hk34 (by decide)
  have hxt := hxt.tr hx2
  clear hx2
  have hf42 : g13 yd 0 = .ref yda := hv40 0
  have hf43 : g13 yd 1 = .int 1 := hv40 1
  have hI := z_part (X' := [(yA, .inr (2, [.ref yAa, .int 1])), (px, .inr (10, [.ref yr, .ref yC, .ref yT, .ref yk, .ref ys, .ref yq, .ref yP, .ref yS, .int 0, .long 0])), (yk, .inr (4, [.ref yb, .ref yA, .long 0, .int 0, .int 0])), (ys, .inr (8, [.int 200, .int 5000, .int 600, .long 0, .long 0, .int 0, .long 0, .long 0, .long 0, .long 0])), (yb, .inr (3, [.int 200, .ref yh, .ref yd])), (yq, .inr (7, [.int 0, .int 0, .int 0, .int 0, .int 0, .int 0, .int 45])), (yP, .inr (2, [.ref yPa, .int 0])), (yS, .inr (2, [.ref ySa, .int 0]))]) [5, 0, 1, 2, 3, 4, 6, 7] rfl rfl hI
  have hf_yA : ∀ x : Nat, κ x < 99 → x ≠ yA := fun x hx => z_fresh hI x (by rw [hxt.1 x hx]; exact hx)
  obtain ⟨L14, κ14, g14, hx2, hk44, hv45, hI, hn46⟩ := z_poolH (k := 36) (fun j => ([.ref yAa, .int 1] : List Value).getD j .null) hI (by decide) (fun κ9 g9 hκ9 hκ8 hg9 => zc_O rfl (zvs_cons ⟨(hg9 0).symm, _, rfl, (hκ9 _ (by rw [hk25]; decide)).trans hk25⟩ rfl (zvs_cons ⟨(hg9 1).symm, _, rfl⟩ rfl zvs_nil)))
  have hv14 := fun j => hx2.g hk13 (by decide) (hv14 j)
  have hv17 := fun j => hx2.g hk16 (by decide) (hv17 j)
  have hv20 := fun j => hx2.g hk19 (by decide) (hv20 j)
  have hv23 := fun j => hx2.g hk22 (by decide) (hv23 j)
  have hv26 := fun j => hx2.g hk25 (by decide) (hv26 j)
  have hv29 := fun j => hx2.g hk28 (by decide) (hv29 j)
  have hv32 := fun j => hx2.g hk31 (by decide) (hv32 j)
  have hf37 := hx2.g hk34 (by decide) hf37
  have hf38 := hx2.g hk34 (by decide) hf38
  have hf42 := hx2.g hk39 (by decide) hf42
  have hf43 := hx2.g hk39 (by decide) hf43
  have hk1 := hx2.k hk1 (by decide)
  have hk4 := hx2.k hk4 (by decide)
  have hk7 := hx2.k hk7 (by decide)
  have hk10 := hx2.k hk10 (by decide)
  have hk13 := hx2.k hk13 (by decide)
  have hk16 := hx2.k hk16 (by decide)
  have hk19 := hx2.k hk19 (by decide)
  have hk22 := hx2.k hk22 (by decide)
  have hk25 := hx2.k hk25 (by decide)
  have hk28 := hx2.k hk28 (by decide)
  have hk31 := hx2.k hk31 (by decide)
  have hk34 := hx2.k hk34 (by decide)
  have hk39 := hx2.k hk39 (by decide)
  have hxt := hxt.tr hx2
  clear hx2
  have hf47 : g14 yA 0 = .ref yAa := hv45 0
  have hf48 : g14 yA 1 = .int 1 := hv45 1
  have hI := z_part (X' := [(yP, .inr (2, [.ref yPa, .int 0])), (px, .inr (10, [.ref yr, .ref yC, .ref yT, .ref yk, .ref ys, .ref yq, .ref yP, .ref yS, .int 0, .long 0])), (yk, .inr (4, [.ref yb, .ref yA, .long 0, .int 0, .int 0])), (ys, .inr (8, [.int 200, .int 5000, .int 600, .long 0, .long 0, .int 0, .long 0, .long 0, .long 0, .long 0])), (yb, .inr (3, [.int 200, .ref yh, .ref yd])), (yq, .inr (7, [.int 0, .int 0, .int 0, .int 0, .int 0, .int 0, .int 45])), (yS, .inr (2, [.ref ySa, .int 0]))]) [5, 0, 1, 2, 3, 4, 6] rfl rfl hI
  have hf_yP : ∀ x : Nat, κ x < 99 → x ≠ yP := fun x hx => z_fresh hI x (by rw [hxt.1 x hx]; exact hx)
  obtain ⟨L15, κ15, g15, hx2, hk49, hv50, hI, hn51⟩ := z_poolH (k := 37) (fun j => ([.ref yPa, .int 0] : List Value).getD j .null) hI (by decide) (fun κ9 g9 hκ9 hκ8 hg9 => zc_O rfl (zvs_cons ⟨(hg9 0).symm, _, rfl, (hκ9 _ (by rw [hk28]; decide)).trans hk28⟩ rfl (zvs_cons ⟨(hg9 1).symm, _, rfl⟩ rfl zvs_nil)))
  have hv14 := fun j => hx2.g hk13 (by decide) (hv14 j)
  have hv17 := fun j => hx2.g hk16 (by decide) (hv17 j)
  have hv20 := fun j => hx2.g hk19 (by decide) (hv20 j)
  have hv23 := fun j => hx2.g hk22 (by decide) (hv23 j)
  have hv26 := fun j => hx2.g hk25 (by decide) (hv26 j)
  have hv29 := fun j => hx2.g hk28 (by decide) (hv29 j)
  have hv32 := fun j => hx2.g hk31 (by decide) (hv32 j)
  have hf37 := hx2.g hk34 (by decide) hf37
  have hf38 := hx2.g hk34 (by decide) hf38
  have hf42 := hx2.g hk39 (by decide) hf42
  have hf43 := hx2.g hk39 (by decide) hf43
  have hf47 := hx2.g hk44 (by decide) hf47
  have hf48 := hx2.g hk44 (by decide) hf48
  have hk1 := hx2.k hk1 (by decide)
  have hk4 := hx2.k hk4 (by decide)
  have hk7 := hx2.k hk7 (by decide)
  have hk10 := hx2.k hk10 (by decide)
  have hk13 := hx2.k hk13 (by decide)
  have hk16 := hx2.k hk16 (by decide)
  have hk19 := hx2.k hk19 (by decide)
  have hk22 := hx2.k hk22 (by decide)
  have hk25 := hx2.k hk25 (by decide)
  have hk28 := hx2.k hk28 (by decide)
  have hk31 := hx2.k hk31 (by decide)
  have hk34 := hx2.k hk34 (by decide)
  have hk39 := hx2.k hk39 (by decide)
  have hk44 := hx2.k hk44 (by decide)
  have hxt := hxt.tr hx2
  clear hx2
  have hf52 : g15 yP 0 = .ref yPa := hv50 0
  have hf53 : g15 yP 1 = .int 0 := hv50 1
  have hI := z_part (X' := [(yS, .inr (2, [.ref ySa, .int 0])), (px, .inr (10, [.ref yr, .ref yC, .ref yT, .ref yk, .ref ys, .ref yq, .ref yP, .ref yS, .int 0, .long 0])), (yk, .inr (4, [.ref yb, .ref yA, .long 0, .int 0, .int 0])), (ys, .inr (8, [.int 200, .int 5000, .int 600, .long 0, .long 0, .int 0, .long 0, .long 0, .long 0, .long 0])), (yb, .inr (3, [.int 200, .ref yh, .ref yd])), (yq, .inr (7, [.int 0, .int 0, .int 0, .int 0, .int 0, .int 0, .int 45]))]) [5, 0, 1, 2, 3, 4] rfl rfl hI
  have hf_yS : ∀ x : Nat, κ x < 99 → x ≠ yS := fun x hx => z_fresh hI x (by rw [hxt.1 x hx]; exact hx)
  obtain ⟨L16, κ16, g16, hx2, hk54, hv55, hI, hn56⟩ := z_poolH (k := 38) (fun j => ([.ref ySa, .int 0] : List Value).getD j .null) hI (by decide) (fun κ9 g9 hκ9 hκ8 hg9 => zc_O rfl (zvs_cons ⟨(hg9 0).symm, _, rfl, (hκ9 _ (by rw [hk31]; decide)).trans hk31⟩ rfl (zvs_cons ⟨(hg9 1).symm, _, rfl⟩ rfl zvs_nil)))
  have hv14 := fun j => hx2.g hk13 (by decide) (hv14 j)
  have hv17 := fun j => hx2.g hk16 (by decide) (hv17 j)
  have hv20 := fun j => hx2.g hk19 (by decide) (hv20 j)
  have hv23 := fun j => hx2.g hk22 (by decide) (hv23 j)
  have hv26 := fun j => hx2.g hk25 (by decide) (hv26 j)
  have hv29 := fun j => hx2.g hk28 (by decide) (hv29 j)
  have hv32 := fun j => hx2.g hk31 (by decide) (hv32 j)
  have hf37 := hx2.g hk34 (by decide) hf37
  have hf38 := hx2.g hk34 (by decide) hf38
  have hf42 := hx2.g hk39 (by decide) hf42
  have hf43 := hx2.g hk39 (by decide) hf43
  have hf47 := hx2.g hk44 (by decide) hf47
  have hf48 := hx2.g hk44 (by decide) hf48
  have hf52 := hx2.g hk49 (by decide) hf52
  have hf53 := hx2.g hk49 (by decide) hf53
  have hk1 := hx2.k hk1 (by decide)
  have hk4 := hx2.k hk4 (by decide)
  have hk7 := hx2.k hk7 (by decide)
  have hk10 := hx2.k hk10 (by decide)
  have hk13 := hx2.k hk13 (by decide)
  have hk16 := hx2.k hk16 (by decide)
  have hk19 := hx2.k hk19 (by decide)
  have hk22 := hx2.k hk22 (by decide)
  have hk25 := hx2.k hk25 (by decide)
  have hk28 := hx2.k hk28 (by decide)
  have hk31 := hx2.k hk31 (by decide)
  have hk34 := hx2.k hk34 (by decide)
  have hk39 := hx2.k hk39 (by decide)
  have hk44 := hx2.k hk44 (by decide)
  have hk49 := hx2.k hk49 (by decide)
  have hxt := hxt.tr hx2
  clear hx2
  have hf57 : g16 yS 0 = .ref ySa := hv55 0
  have hf58 : g16 yS 1 = .int 0 := hv55 1
  have hI := z_part (X' := [(yb, .inr (3, [.int 200, .ref yh, .ref yd])), (px, .inr (10, [.ref yr, .ref yC, .ref yT, .ref yk, .ref ys, .ref yq, .ref yP, .ref yS, .int 0, .long 0])), (yk, .inr (4, [.ref yb, .ref yA, .long 0, .int 0, .int 0])), (ys, .inr (8, [.int 200, .int 5000, .int 600, .long 0, .long 0, .int 0, .long 0, .long 0, .long 0, .long 0])), (yq, .inr (7, [.int 0, .int 0, .int 0, .int 0, .int 0, .int 0, .int 45]))]) [3, 0, 1, 2, 4] rfl rfl hI
  have hf_yb : ∀ x : Nat, κ x < 99 → x ≠ yb := fun x hx => z_fresh hI x (by rw [hxt.1 x hx]; exact hx)
  obtain ⟨L17, κ17, g17, hx2, hk59, hv60, hI, hn61⟩ := z_poolH (k := 31) (fun j => ([.int 200, .ref yh, .ref yd] : List Value).getD j .null) hI (by decide) (fun κ9 g9 hκ9 hκ8 hg9 => zc_O rfl (zvs_cons rfl rfl (zvs_cons ⟨(hg9 1).symm, _, rfl, (hκ9 _ (by rw [hk34]; decide)).trans hk34⟩ rfl (zvs_cons ⟨(hg9 2).symm, _, rfl, (hκ9 _ (by rw [hk39]; decide)).trans hk39⟩ rfl zvs_nil))))
  have hv14 := fun j => hx2.g hk13 (by decide) (hv14 j)
  have hv17 := fun j => hx2.g hk16 (by decide) (hv17 j)
  have hv20 := fun j => hx2.g hk19 (by decide) (hv20 j)
  have hv23 := fun j => hx2.g hk22 (by decide) (hv23 j)
  have hv26 := fun j => hx2.g hk25 (by decide) (hv26 j)
  have hv29 := fun j => hx2.g hk28 (by decide) (hv29 j)
  have hv32 := fun j => hx2.g hk31 (by decide) (hv32 j)
  have hf37 := hx2.g hk34 (by decide) hf37
  have hf38 := hx2.g hk34 (by decide) hf38
  have hf42 := hx2.g hk39 (by decide) hf42
  have hf43 := hx2.g hk39 (by decide) hf43
  have hf47 := hx2.g hk44 (by decide) hf47
  have hf48 := hx2.g hk44 (by decide) hf48
  have hf52 := hx2.g hk49 (by decide) hf52
  have hf53 := hx2.g hk49 (by decide) hf53
  have hf57 := hx2.g hk54 (by decide) hf57
  have hf58 := hx2.g hk54 (by decide) hf58
  have hk1 := hx2.k hk1 (by decide)
  have hk4 := hx2.k hk4 (by decide)
  have hk7 := hx2.k hk7 (by decide)
  have hk10 := hx2.k hk10 (by decide)
  have hk13 := hx2.k hk13 (by decide)
  have hk16 := hx2.k hk16 (by decide)
  have hk19 := hx2.k hk19 (by decide)
  have hk22 := hx2.k hk22 (by decide)
  have hk25 := hx2.k hk25 (by decide)
  have hk28 := hx2.k hk28 (by decide)
  have hk31 := hx2.k hk31 (by decide)
  have hk34 := hx2.k hk34 (by decide)
  have hk39 := hx2.k hk39 (by decide)
  have hk44 := hx2.k hk44 (by decide)
  have hk49 := hx2.k hk49 (by decide)
  have hk54 := hx2.k hk54 (by decide)
  have hxt := hxt.tr hx2
  clear hx2
  have hf62 : g17 yb 1 = .ref yh := hv60 1
  have hf63 : g17 yb 2 = .ref yd := hv60 2
  have hI := z_part (X' := [(yk, .inr (4, [.ref yb, .ref yA, .long 0, .int 0, .int 0])), (px, .inr (10, [.ref yr, .ref yC, .ref yT, .ref yk, .ref ys, .ref yq, .ref yP, .ref yS, .int 0, .long 0])), (ys, .inr (8, [.int 200, .int 5000, .int 600, .long 0, .long 0, .int 0, .long 0, .long 0, .long 0, .long 0])), (yq, .inr (7, [.int 0, .int 0, .int 0, .int 0, .int 0, .int 0, .int 45]))]) [1, 0, 2, 3] rfl rfl hI
  have hf_yk : ∀ x : Nat, κ x < 99 → x ≠ yk := fun x hx => z_fresh hI x (by rw [hxt.1 x hx]; exact hx)
  obtain ⟨L18, κ18, g18, hx2, hk64, hv65, hI, hn66⟩ := z_poolH (k := 4) (fun j => ([.ref yb, .ref yA, .long 0, .int 0, .int 0] : List Value).getD j .null) hI (by decide) (fun κ9 g9 hκ9 hκ8 hg9 => zc_O rfl (zvs_cons ⟨(hg9 0).symm, _, rfl, (hκ9 _ (by rw [hk59]; decide)).trans hk59⟩ rfl (zvs_cons ⟨(hg9 1).symm, _, rfl, (hκ9 _ (by rw [hk44]; decide)).trans hk44⟩ rfl (zvs_cons ⟨(hg9 2).symm, _, rfl⟩ rfl (zvs_cons ⟨_, rfl, by decide, by decide⟩ rfl (zvs_cons (Or.inl rfl) rfl zvs_nil))))))
  have hv14 := fun j => hx2.g hk13 (by decide) (hv14 j)
  have hv17 := fun j => hx2.g hk16 (by decide) (hv17 j)
  have hv20 := fun j => hx2.g hk19 (by decide) (hv20 j)
  have hv23 := fun j => hx2.g hk22 (by decide) (hv23 j)
  have hv26 := fun j => hx2.g hk25 (by decide) (hv26 j)
  have hv29 := fun j => hx2.g hk28 (by decide) (hv29 j)
  have hv32 := fun j => hx2.g hk31 (by decide) (hv32 j)
  have hf37 := hx2.g hk34 (by decide) hf37
  have hf38 := hx2.g hk34 (by decide) hf38
  have hf42 := hx2.g hk39 (by decide) hf42
  have hf43 := hx2.g hk39 (by decide) hf43
  have hf47 := hx2.g hk44 (by decide) hf47
  have hf48 := hx2.g hk44 (by decide) hf48
  have hf52 := hx2.g hk49 (by decide) hf52
  have hf53 := hx2.g hk49 (by decide) hf53
  have hf57 := hx2.g hk54 (by decide) hf57
  have hf58 := hx2.g hk54 (by decide) hf58
  have hf62 := hx2.g hk59 (by decide) hf62
  have hf63 := hx2.g hk59 (by decide) hf63
  have hk1 := hx2.k hk1 (by decide)
  have hk4 := hx2.k hk4 (by decide)
  have hk7 := hx2.k hk7 (by decide)
  have hk10 := hx2.k hk10 (by decide)
  have hk13 := hx2.k hk13 (by decide)
  have hk16 := hx2.k hk16 (by decide)
  have hk19 := hx2.k hk19 (by decide)
  have hk22 := hx2.k hk22 (by decide)
  have hk25 := hx2.k hk25 (by decide)
  have hk28 := hx2.k hk28 (by decide)
  have hk31 := hx2.k hk31 (by decide)
  have hk34 := hx2.k hk34 (by decide)
  have hk39 := hx2.k hk39 (by decide)
  have hk44 := hx2.k hk44 (by decide)
  have hk49 := hx2.k hk49 (by decide)
  have hk54 := hx2.k hk54 (by decide)
  have hk59 := hx2.k hk59 (by decide)
  have hxt := hxt.tr hx2
  clear hx2
  have hf67 : g18 yk 0 = .ref yb := hv65 0
  have hf68 : g18 yk 1 = .ref yA := hv65 1
  have hf69 : g18 yk 2 = .long 0 := hv65 2
  have hI := z_part (X' := [(ys, .inr (8, [.int 200, .int 5000, .int 600, .long 0, .long 0, .int 0, .long 0, .long 0, .long 0, .long 0])), (px, .inr (10, [.ref yr, .ref yC, .ref yT, .ref yk, .ref ys, .ref yq, .ref yP, .ref yS, .int 0, .long 0])), (yq, .inr (7, [.int 0, .int 0, .int 0, .int 0, .int 0, .int 0, .int 45]))]) [1, 0, 2] rfl rfl hI
  have hf_ys : ∀ x : Nat, κ x < 99 → x ≠ ys := fun x hx => z_fresh hI x (by rw [hxt.1 x hx]; exact hx)
  obtain ⟨L19, κ19, g19, hx2, hk70, hv71, hI, hn72⟩ := z_poolH (k := 8) (fun j => ([.int 200, .int 5000, .int 600, .long 0, .long 0, .int 0, .long 0, .long 0, .long 0, .long 0] : List Value).getD j .null) hI (by decide) (fun κ9 g9 hκ9 hκ8 hg9 => zc_O rfl (zvs_cons ⟨_, rfl, by decide, by decide⟩ rfl (zvs_cons ⟨(hg9 1).symm, _, rfl⟩ rfl (zvs_cons ⟨_, rfl⟩ rfl (zvs_cons ⟨(hg9 3).symm, _, rfl⟩ rfl (zvs_cons ⟨(hg9 4).symm, _, rfl⟩ rfl (zvs_cons (Or.inl rfl) rfl (zvs_cons ⟨(hg9 6).symm, _, rfl⟩ rfl (zvs_cons ⟨(hg9 7).symm, _, rfl⟩ rfl (zvs_cons ⟨(hg9 8).symm, _, rfl⟩ rfl (zvs_cons ⟨(hg9 9).symm, _, rfl⟩ rfl zvs_nil)))))))))))
  have hv14 := fun j => hx2.g hk13 (by decide) (hv14 j)
  have hv17 := fun j => hx2.g hk16 (by decide) (hv17 j)
  have hv20 := fun j => hx2.g hk19 (by decide) (hv20 j)
  have hv23 := fun j => hx2.g hk22 (by decide) (hv23 j)
  have hv26 := fun j => hx2.g hk25 (by decide) (hv26 j)
  have hv29 := fun j => hx2.g hk28 (by decide) (hv29 j)
  have hv32 := fun j => hx2.g hk31 (by decide) (hv32 j)
  have hf37 := hx2.g hk34 (by decide) hf37
  have hf38 := hx2.g hk34 (by decide) hf38
  have hf42 := hx2.g hk39 (by decide) hf42
  have hf43 := hx2.g hk39 (by decide) hf43
  have hf47 := hx2.g hk44 (by decide) hf47
  have hf48 := hx2.g hk44 (by decide) hf48
  have hf52 := hx2.g hk49 (by decide) hf52
  have hf53 := hx2.g hk49 (by decide) hf53
  have hf57 := hx2.g hk54 (by decide) hf57
  have hf58 := hx2.g hk54 (by decide) hf58
  have hf62 := hx2.g hk59 (by decide) hf62
  have hf63 := hx2.g hk59 (by decide) hf63
  have hf67 := hx2.g hk64 (by decide) hf67
  have hf68 := hx2.g hk64 (by decide) hf68
  have hf69 := hx2.g hk64 (by decide) hf69
  have hk1 := hx2.k hk1 (by decide)
  have hk4 := hx2.k hk4 (by decide)
  have hk7 := hx2.k hk7 (by decide)
  have hk10 := hx2.k hk10 (by decide)
  have hk13 := hx2.k hk13 (by decide)
  have hk16 := hx2.k hk16 (by decide)
  have hk19 := hx2.k hk19 (by decide)
  have hk22 := hx2.k hk22 (by decide)
  have hk25 := hx2.k hk25 (by decide)
  have hk28 := hx2.k hk28 (by decide)
  have hk31 := hx2.k hk31 (by decide)
  have hk34 := hx2.k hk34 (by decide)
  have hk39 := hx2.k hk39 (by decide)
  have hk44 := hx2.k hk44 (by decide)
  have hk49 := hx2.k hk49 (by decide)
  have hk54 := hx2.k hk54 (by decide)
  have hk59 := hx2.k hk59 (by decide)
  have hk64 := hx2.k hk64 (by decide)
  have hxt := hxt.tr hx2
  clear hx2
  have hf73 : g19 ys 1 = .int 5000 := hv71 1
  have hf74 : g19 ys 3 = .long 0 := hv71 3
  have hf75 : g19 ys 4 = .long 0 := hv71 4
  have hf76 : g19 ys 6 = .long 0 := hv71 6
  have hf77 : g19 ys 7 = .long 0 := hv71 7
  have hf78 : g19 ys 8 = .long 0 := hv71 8
  have hf79 : g19 ys 9 = .long 0 := hv71 9
  have hI := z_part (X' := [(yq, .inr (7, [.int 0, .int 0, .int 0, .int 0, .int 0, .int 0, .int 45])), (px, .inr (10, [.ref yr, .ref yC, .ref yT, .ref yk, .ref ys, .ref yq, .ref yP, .ref yS, .int 0, .long 0]))]) [1, 0] rfl rfl hI
  have hf_yq : ∀ x : Nat, κ x < 99 → x ≠ yq := fun x hx => z_fresh hI x (by rw [hxt.1 x hx]; exact hx)
  obtain ⟨L20, κ20, g20, hx2, hk80, hv81, hI, hn82⟩ := z_poolH (k := 7) (fun _ => .null) hI (by decide) (fun κ9 g9 hκ9 hκ8 hg9 => zc_O rfl (zvs_cons ⟨_, rfl⟩ rfl (zvs_cons ⟨_, rfl⟩ rfl (zvs_cons ⟨_, rfl⟩ rfl (zvs_cons ⟨_, rfl, by decide, by decide⟩ rfl (zvs_cons ⟨_, rfl⟩ rfl (zvs_cons ⟨_, rfl, by decide, by decide⟩ rfl (zvs_cons ⟨_, rfl, by decide⟩ rfl zvs_nil))))))))
  have hv14 := fun j => hx2.g hk13 (by decide) (hv14 j)
  have hv17 := fun j => hx2.g hk16 (by decide) (hv17 j)
  have hv20 := fun j => hx2.g hk19 (by decide) (hv20 j)
  have hv23 := fun j => hx2.g hk22 (by decide) (hv23 j)
  have hv26 := fun j => hx2.g hk25 (by decide) (hv26 j)
  have hv29 := fun j => hx2.g hk28 (by decide) (hv29 j)
  have hv32 := fun j => hx2.g hk31 (by decide) (hv32 j)
  have hf37 := hx2.g hk34 (by decide) hf37
  have hf38 := hx2.g hk34 (by decide) hf38
  have hf42 := hx2.g hk39 (by decide) hf42
  have hf43 := hx2.g hk39 (by decide) hf43
  have hf47 := hx2.g hk44 (by decide) hf47
  have hf48 := hx2.g hk44 (by decide) hf48
  have hf52 := hx2.g hk49 (by decide) hf52
  have hf53 := hx2.g hk49 (by decide) hf53
  have hf57 := hx2.g hk54 (by decide) hf57
  have hf58 := hx2.g hk54 (by decide) hf58
  have hf62 := hx2.g hk59 (by decide) hf62
  have hf63 := hx2.g hk59 (by decide) hf63
  have hf67 := hx2.g hk64 (by decide) hf67
  have hf68 := hx2.g hk64 (by decide) hf68
  have hf69 := hx2.g hk64 (by decide) hf69
  have hf73 := hx2.g hk70 (by decide) hf73
  have hf74 := hx2.g hk70 (by decide) hf74
  have hf75 := hx2.g hk70 (by decide) hf75
  have hf76 := hx2.g hk70 (by decide) hf76
  have hf77 := hx2.g hk70 (by decide) hf77
  have hf78 := hx2.g hk70 (by decide) hf78
  have hf79 := hx2.g hk70 (by decide) hf79
  have hk1 := hx2.k hk1 (by decide)
  have hk4 := hx2.k hk4 (by decide)
  have hk7 := hx2.k hk7 (by decide)
  have hk10 := hx2.k hk10 (by decide)
  have hk13 := hx2.k hk13 (by decide)
  have hk16 := hx2.k hk16 (by decide)
  have hk19 := hx2.k hk19 (by decide)
  have hk22 := hx2.k hk22 (by decide)
  have hk25 := hx2.k hk25 (by decide)
  have hk28 := hx2.k hk28 (by decide)
  have hk31 := hx2.k hk31 (by decide)
  have hk34 := hx2.k hk34 (by decide)
  have hk39 := hx2.k hk39 (by decide)
  have hk44 := hx2.k hk44 (by decide)
  have hk49 := hx2.k hk49 (by decide)
  have hk54 := hx2.k hk54 (by decide)
  have hk59 := hx2.k hk59 (by decide)
  have hk64 := hx2.k hk64 (by decide)
  have hk70 := hx2.k hk70 (by decide)
  have hxt := hxt.tr hx2
  clear hx2
  have hf_px : ∀ x : Nat, κ x < 99 → x ≠ px := fun x hx => z_fresh hI x (by rw [hxt.1 x hx]; exact hx)
  obtain ⟨L21, κ21, g21, hx2, hk83, hv84, hI, hn85⟩ := z_poolH (k := 10) (fun j => ([.ref yr, .ref yC, .ref yT, .ref yk, .ref ys, .ref yq, .ref yP, .ref yS, .int 0, .long 0] : List Value).getD j .null) hI (by decide) (fun κ9 g9 hκ9 hκ8 hg9 => zc_O rfl (zvs_cons ⟨(hg9 0).symm, _, rfl, (hκ9 _ (by rw [hk10]; decide)).trans hk10⟩ rfl (zvs_cons ⟨(hg9 1).symm, _, rfl, (hκ9 _ (by rw [hk13]; decide)).trans hk13⟩ rfl (zvs_cons ⟨(hg9 2).symm, _, rfl, (hκ9 _ (by rw [hk16]; decide)).trans hk16⟩ rfl (zvs_cons ⟨(hg9 3).symm, _, rfl, (hκ9 _ (by rw [hk64]; decide)).trans hk64⟩ rfl (zvs_cons ⟨(hg9 4).symm, _, rfl, (hκ9 _ (by rw [hk70]; decide)).trans hk70⟩ rfl (zvs_cons ⟨(hg9 5).symm, _, rfl, (hκ9 _ (by rw [hk80]; decide)).trans hk80⟩ rfl (zvs_cons ⟨(hg9 6).symm, _, rfl, (hκ9 _ (by rw [hk49]; decide)).trans hk49⟩ rfl (zvs_cons ⟨(hg9 7).symm, _, rfl, (hκ9 _ (by rw [hk54]; decide)).trans hk54⟩ rfl (zvs_cons ⟨(hg9 8).symm, _, rfl⟩ rfl (zvs_cons ⟨(hg9 9).symm, _, rfl⟩ rfl zvs_nil)))))))))))
  have hv14 := fun j => hx2.g hk13 (by decide) (hv14 j)
  have hv17 := fun j => hx2.g hk16 (by decide) (hv17 j)
  have hv20 := fun j => hx2.g hk19 (by decide) (hv20 j)
  have hv23 := fun j => hx2.g hk22 (by decide) (hv23 j)
  have hv26 := fun j => hx2.g hk25 (by decide) (hv26 j)
  have hv29 := fun j => hx2.g hk28 (by decide) (hv29 j)
  have hv32 := fun j => hx2.g hk31 (by decide) (hv32 j)
  have hf37 := hx2.g hk34 (by decide) hf37
  have hf38 := hx2.g hk34 (by decide) hf38
  have hf42 := hx2.g hk39 (by decide) hf42
  have hf43 := hx2.g hk39 (by decide) hf43
  have hf47 := hx2.g hk44 (by decide) hf47
  have hf48 := hx2.g hk44 (by decide) hf48
  have hf52 := hx2.g hk49 (by decide) hf52
  have hf53 := hx2.g hk49 (by decide) hf53
  have hf57 := hx2.g hk54 (by decide) hf57
  have hf58 := hx2.g hk54 (by decide) hf58
  have hf62 := hx2.g hk59 (by decide) hf62
  have hf63 := hx2.g hk59 (by decide) hf63
  have hf67 := hx2.g hk64 (by decide) hf67
  have hf68 := hx2.g hk64 (by decide) hf68
  have hf69 := hx2.g hk64 (by decide) hf69
  have hf73 := hx2.g hk70 (by decide) hf73
  have hf74 := hx2.g hk70 (by decide) hf74
  have hf75 := hx2.g hk70 (by decide) hf75
  have hf76 := hx2.g hk70 (by decide) hf76
  have hf77 := hx2.g hk70 (by decide) hf77
  have hf78 := hx2.g hk70 (by decide) hf78
  have hf79 := hx2.g hk70 (by decide) hf79
  have hk1 := hx2.k hk1 (by decide)
  have hk4 := hx2.k hk4 (by decide)
  have hk7 := hx2.k hk7 (by decide)
  have hk10 := hx2.k hk10 (by decide)
  have hk13 := hx2.k hk13 (by decide)
  have hk16 := hx2.k hk16 (by decide)
  have hk19 := hx2.k hk19 (by decide)
  have hk22 := hx2.k hk22 (by decide)
  have hk25 := hx2.k hk25 (by decide)
  have hk28 := hx2.k hk28 (by decide)
  have hk31 := hx2.k hk31 (by decide)
  have hk34 := hx2.k hk34 (by decide)
  have hk39 := hx2.k hk39 (by decide)
  have hk44 := hx2.k hk44 (by decide)
  have hk49 := hx2.k hk49 (by decide)
  have hk54 := hx2.k hk54 (by decide)
  have hk59 := hx2.k hk59 (by decide)
  have hk64 := hx2.k hk64 (by decide)
  have hk70 := hx2.k hk70 (by decide)
  have hk80 := hx2.k hk80 (by decide)
  have hxt := hxt.tr hx2
  clear hx2
  have hf86 : g21 px 0 = .ref yr := hv84 0
  have hf87 : g21 px 1 = .ref yC := hv84 1
  have hf88 : g21 px 2 = .ref yT := hv84 2
  have hf89 : g21 px 3 = .ref yk := hv84 3
  have hf90 : g21 px 4 = .ref ys := hv84 4
  have hf91 : g21 px 5 = .ref yq := hv84 5
  have hf92 : g21 px 6 = .ref yP := hv84 6
  have hf93 : g21 px 7 = .ref yS := hv84 7
  have hf94 : g21 px 8 = .int 0 := hv84 8
  have hf95 : g21 px 9 = .long 0 := hv84 9
  obtain ⟨n0, v0⟩ := zN_one hf37 hf38 hv20 (by decide)
  obtain ⟨n1, v1⟩ := zN_one hf42 hf43 hv23 (by decide)
  obtain ⟨n2, v2⟩ := zN_one hf47 hf48 hv26 (by decide)
  have n3 := zN_nil hf52 hf53 hv29
  have n4 := zN_nil hf57 hf58 hv32
  have v0 : zV g21 yha = 4000 := v0
  have v1 : zV g21 yda = 20 := v1
  have v2 : zV g21 yAa = 20 := v2
  have hall : ∀ x, x < 5 → κ21 ((fun j => ([yh, yd, yA, yP, yS] : List Nat).getD j 0) x) = kx x ∧ κ21 ((fun j => ([yha, yda, yAa, yPa, ySa] : List Nat).getD j 0) x) = kx x + 20 ∧ ∃ u, zN g21 ((fun j => ([yh, yd, yA, yP, yS] : List Nat).getD j 0) x) ((fun j => ([yha, yda, yAa, yPa, ySa] : List Nat).getD j 0) x) u := fun x hx => by
    rcases (show x = 0 ∨ x = 1 ∨ x = 2 ∨ x = 3 ∨ x = 4 by omega) with rfl | rfl | rfl | rfl | rfl
    · exact ⟨hk34, hk19, 1, n0⟩
    · exact ⟨hk39, hk22, 1, n1⟩
    · exact ⟨hk44, hk25, 1, n2⟩
    · exact ⟨hk49, hk28, 0, n3⟩
    · exact ⟨hk54, hk31, 0, n4⟩
  have hdis : ∀ x y, x < 5 → y < 5 → x ≠ y → (fun j => ([yh, yd, yA, yP, yS] : List Nat).getD j 0) x ≠ (fun j => ([yh, yd, yA, yP, yS] : List Nat).getD j 0) y ∧ (fun j => ([yha, yda, yAa, yPa, ySa] : List Nat).getD j 0) x ≠ (fun j => ([yha, yda, yAa, yPa, ySa] : List Nat).getD j 0) y := fun x y hx hy hne => by
    obtain ⟨a1, b1, -⟩ := hall x hx
    obtain ⟨a2, b2, -⟩ := hall y hy
    have e1 : kx x = 34 + x := if_pos hx
    have e2 : kx y = 34 + y := if_pos hy
    exact ⟨fun e => by rw [e, a2] at a1; omega, fun e => by rw [e, b2] at b1; omega⟩
  have hshp : zShp κ21 g21 (fun j => ([px, yC, yT, yk, ys, yq, yb] : List Nat).getD j 0) (fun _ => 0) (fun _ => 0) (fun j => ([yh, yd, yA, yP, yS] : List Nat).getD j 0) (fun j => ([yha, yda, yAa, yPa, ySa] : List Nat).getD j 0) 0 := ⟨⟨hk83, hk13, hk16, hk64, hk70, hk80, hk59⟩, ⟨hf87, hf88, hf89, hf90, hf91, hf92, hf93⟩, ⟨hf67, hf68, hf62, hf63⟩, by decide, (fun i h => absurd h (Nat.not_lt_zero _)), fun i _ _ => hv14 i, fun i j h => absurd h (Nat.not_lt_zero _), hall, hdis⟩
  have hT : zTt g21 (fun j => ([yha, yda, yAa, yPa, ySa] : List Nat).getD j 0) 0 = 4000 := by
    show zV g21 yha + 0 = 4000
    omega
  exact ⟨L21, κ21, g21, hI, hxt, hk83, hshp, ⟨⟨(show zV g21 yda = zV g21 yha / 200 by omega), (show 4000 ≤ zV g21 yha by omega)⟩, fun j h => absurd h (Nat.not_lt_zero _)⟩, v2, hf94, by decide, (fun i h => absurd h (Nat.not_lt_zero _)), ⟨0, 0, 0, 0, 0, 0, 5000, ⟨hf69, hf95, hf76, hf77, hf78, hf79, hf73, by decide, rfl⟩, by rw [hT]; rfl⟩, by rw [hT]; decide⟩
