/-! the reference's cores and threads: made, put into the pool, added -/
section ZMK
variable {p : Program} {l : Launch} {e : Env} {R : Room} {s : State} {m : MethodId} {args : Array Value} {below : List Frame} {meth : Method} {c : Code} {H : Heap} {locs : List Loc} {cells slots mc ms : Nat} {Q : State → Prop}
variable {a0 : Array Value} {pc : Nat} {ls : Array Slot} {rest st0 : List Value} {D : va_G} {tc : Nat → ClassId} {A : Nat → Prop} {X : va_W} {L : List Nat} {κ : Nat → Nat} {g : Nat → Nat → Value}
theorem z_cvG {S : Type} {sel : S → zS} {rxf : S → va_W} {post : S → Prop} {Xc wr : va_W} (isC isR : List Nat) (hC : isC.map (fun i => X[i]?) = Xc.map some) (hR : isR.map (fun i => X[i]?) = wr.map some) (hnC : va_nd isC = true) (hn : va_nd isR = true) (hdis : ∀ i ∈ isR, i ∉ isC) (hI : zI D tc A s.heap X L κ g H locs) (hr : va_Run p l e R s m args below meth c H locs cells slots mc ms (F0 m pc ls st0) rest (va_Qv post (fun (u : S) (t : State) => zB D tc (zA Xc L H.size) (rxf u) (sel u) t) (zA Xc L H.size) a0) (zA Xc L H.size))
    (kk : ∀ (u : S) (H1 : Heap) (locs1 : List Loc), post u → zI D tc A s.heap (wr ++ rxf u) (sel u).1 (sel u).2.1 (sel u).2.2 H1 locs1 → W p l e R s m args below meth c H1 locs1 (cells + mc) (slots + ms) Q (F0 m (pc + 3) ls rest)) : W p l e R s m args below meth c H locs cells slots Q (F0 m pc ls st0) :=
  va_callv hr hI.2.1 (fun q _ h => z_sub hI isC hnC hC q h) (z_sub hI isC hnC hC) (fun u t H1 locs1 ht hvm hw hB hz1 hk1 hS1 => kk u H1 locs1 hw (z_backX hI isC isR hC hR hnC hn hdis hk1 ht hB hS1))
end ZMK
section
variable {κ κ2 : Nat → Nat} {g g2 : Nat → Nat → Value} {z0 p lc eC nC : Nat} {mC : Int32} {cf : Nat → Nat} {lt eT nT : Nat} {mT : Int32} {tf : Nat → Nat}
theorem zLi.ext {l K e KA KE n : Nat} {mo : Int32} {f : Nat → Nat} (h : zLi κ g z0 l K e KA KE n mo f) (hx : zExt κ g κ2 g2) (h1 : K < 99) (h2 : KA < 99) (h3 : KE < 99) : zLi κ2 g2 z0 l K e KA KE n mo f := by
  obtain ⟨a1, a2, a3, a4, a5, a6, a7, a8⟩ := h
  exact ⟨hx.k a1 h1, hx.g a1 h1 a2, hx.g a1 h1 a3, hx.g a1 h1 a4, a5, fun h => hx.k (a6 h) h2, a7, fun j hj => ⟨hx.g (a6 (by omega)) h2 (a8 j hj).1, hx.k (a8 j hj).2 h3⟩⟩
theorem zMo.ext (h : zMo κ g z0 p lc eC nC mC cf lt eT nT mT tf) (hx : zExt κ g κ2 g2) : zMo κ2 g2 z0 p lc eC nC mC cf lt eT nT mT tf :=
  ⟨hx.k h.k (by decide), hx.g h.k (by decide) h.gc, hx.g h.k (by decide) h.gt, h.LC.ext hx (by decide) (by decide) (by decide), h.LT.ext hx (by decide) (by decide) (by decide), h.bC, h.bT⟩
theorem zLi.fr {l K e KA KE n a KA2 : Nat} {mo : Int32} {f : Nat → Nat} (h : zLi κ g z0 l K e KA KE n mo f) (h1 : K < 99) (h2 : KA < 99) (h3 : KE < 99) (hκ : ∀ a, κ a < 99 → κ2 a = κ a) (hg : ∀ b j, κ b < 99 → b ≠ a → κ b ≠ KA2 → g2 b j = g b j) (ha : l ≠ a) (hKK : K ≠ KA2) (hKK2 : KA ≠ KA2) (hae : κ a ≠ KA) : zLi κ2 g2 z0 l K e KA KE n mo f := by
  obtain ⟨a1, a2, a3, a4, a5, a6, a7, a8⟩ := h
  have fl : ∀ j, g2 l j = g l j := fun j => hg l j (by rw [a1]; exact h1) ha (by rw [a1]; exact hKK)
  refine ⟨(hκ l (by rw [a1]; exact h1)).trans a1, (fl _).trans a2, (fl _).trans a3, (fl _).trans a4, a5, fun h => (hκ e (by rw [a6 h]; exact h2)).trans (a6 h), a7, fun j hj => ⟨?_, (hκ _ (by rw [(a8 j hj).2]; exact h3)).trans (a8 j hj).2⟩⟩
  have he := a6 (by omega)
  exact (hg e j (by rw [he]; exact h2) (fun q => hae (by rw [← q]; exact he)) (by rw [he]; exact hKK2)).trans (a8 j hj).1
theorem zMo.addC {e2 q : Nat} {mo : Int32} (h : zMo κ g z0 p lc eC nC mC cf lt eT nT mT tf) (hz : zLi κ2 g2 z0 lc 1 e2 25 11 (nC + 1) mo (va_up cf nC q)) (hκ : ∀ a, κ a < 99 → κ2 a = κ a) (hg : ∀ b j, κ b < 99 → b ≠ lc → κ b ≠ 25 → g2 b j = g b j) (hn : nC < 6) : zMo κ2 g2 z0 p lc e2 (nC + 1) mo (va_up cf nC q) lt eT nT mT tf := by
  have hp : p ≠ lc := fun e => absurd (h.k.symm.trans (e ▸ h.LC.1)) (by decide)
  have hlt : lt ≠ lc := fun e => absurd (h.LT.1.symm.trans (e ▸ h.LC.1)) (by decide)
  have fp : ∀ j, g2 p j = g p j := fun j => hg p j (by rw [h.k]; decide) hp (by rw [h.k]; decide)
  exact ⟨(hκ p (by rw [h.k]; decide)).trans h.k, (fp 0).trans h.gc, (fp 1).trans h.gt, hz, h.LT.fr (by decide) (by decide) (by decide) hκ hg hlt (by decide) (by decide) (by rw [h.LC.1]; decide), by omega, h.bT⟩
theorem zMo.addT {e2 q : Nat} {mo : Int32} (h : zMo κ g z0 p lc eC nC mC cf lt eT nT mT tf) (hz : zLi κ2 g2 z0 lt 14 e2 26 12 (nT + 1) mo (va_up tf nT q)) (hκ : ∀ a, κ a < 99 → κ2 a = κ a) (hg : ∀ b j, κ b < 99 → b ≠ lt → κ b ≠ 26 → g2 b j = g b j) (hn : nT < 8) : zMo κ2 g2 z0 p lc eC nC mC cf lt e2 (nT + 1) mo (va_up tf nT q) := by
  have hp : p ≠ lt := fun e => absurd (h.k.symm.trans (e ▸ h.LT.1)) (by decide)
  have hlt : lc ≠ lt := fun e => absurd (h.LC.1.symm.trans (e ▸ h.LT.1)) (by decide)
  have fp : ∀ j, g2 p j = g p j := fun j => hg p j (by rw [h.k]; decide) hp (by rw [h.k]; decide)
  exact ⟨(hκ p (by rw [h.k]; decide)).trans h.k, (fp 0).trans h.gc, (fp 1).trans h.gt, h.LC.fr (by decide) (by decide) (by decide) hκ hg hlt (by decide) (by decide) (by rw [h.LT.1]; decide), hz, h.bC, by omega⟩
end

set_option maxHeartbeats 4000000 in
set_option maxRecDepth 100000 in
theorem c_X10_init (l : Launch) (D : va_G) (tc : Nat → ClassId) (z0 : Nat) (L : List Nat) (κ : Nat → Nat) (g : Nat → Nat → Value) (sz : Nat) (q : Nat) (p1 p2 p3 : Int32) : Met l yX10_init wsX10_init ({ frames := 1, cells := 0, slots := 0, locals := 20 }) (zPc D tc z0 [.ref q, .int p1, .int p2, .int p3] ([(q, .inr (12, [.int 0, .int 0, .int 0, .int 0]))] : va_W) (L, κ, g) sz) (va_Qv (fun (u : zS) => u = (L, κ, g)) (fun (u : zS) (t : State) => zB D tc (zA ([(q, .inr (12, [.int 0, .int 0, .int 0, .int 0]))] : va_W) L sz) [(q, .inr (12, [.int p3, .int p1, .int p2, .int 0]))] u t) (zA ([(q, .inr (12, [.int 0, .int 0, .int 0, .int 0]))] : va_W) L sz)) 0 0 (zA ([(q, .inr (12, [.int 0, .int 0, .int 0, .int 0]))] : va_W) L sz) := by
  refine Met.ofW (cc := cX10_init) (maxL := 4) (ret := none) (by decide) rfl ?_
  intro p e9 s m args below meth c s₁ B hml hv
  obtain ⟨rfl, rfl, hK, hE, hI⟩ := hv.opn
  have hx := B.exec
  have hb := B.bytes
  have hr := B.returns
  have hts := atoms_spec (ws := wsX10_init) B.pre
  have hown : s.vm.findClass RX10 = some m.cls := findClass_of_methodNamed B.named
  have hlocks := B.notSynchronized
  have hM : zM p s m c cX10_init _ wsX10_init RX10 D tc := ⟨hx, hb, hts, hown, hK⟩
  have hin2 : meth.name = "<init>" := (name_of_methodNamed B.named B.method).1
  have hl := lv_entry ([.ref q, .int p1, .int p2, .int p3]) (n := 4) (Nat.le_of_ble_eq_true rfl)
  rw [lg_entry_eq]
  generalize (lg_sl ([.ref q, .int p1, .int p2, .int p3]) ++ List.replicate (4 - (lg_sl ([.ref q, .int p1, .int p2, .int p3])).length) Slot.unset).toArray = ls at hl ⊢
  have hl : lv_has ls 4 [(0, .ref q), (1, .int p1), (2, .int p2), (3, .int p3)] := hl
  have hin7 : ∀ w ∈ wsX100, w ∈ wsX10_init := by decide +kernel
  refine lv_aload_n hx hb dX10_init_0 rfl (lv_at hl 0 rfl) ?_
  refine W.objInit hx hb hown (hts (.methodLink RX10 1 objectInit) (by decide +kernel)) (hts (.instanceMethod objectInit) (by decide +kernel)) (hts (.code objectInit ⟨#[0xb1]⟩ 1 none) (by decide +kernel)) rfl (by rw [hml]; exact hl.1) rfl dX10_init_1 (Nat.le_of_ble_eq_true rfl) (Nat.le_of_ble_eq_true rfl) ?_
  refine W.eq (g2 := F0 m 4 ls []) rfl ?_
  refine lv_aload_n hx hb dX10_init_4 rfl (lv_at hl 0 rfl) ?_
  refine lv_iload_n hx hb dX10_init_5 rfl (lv_at hl 1 rfl) ?_
  refine z_putX (i := 0) (j := 1) hM hI rfl hin7 tyX10 tyX10_ok nmX10 rfl (by decide) (by decide +kernel) (fun _ h9 => h9) rfl rfl rfl rfl (Nat.le_of_ble_eq_true rfl) dX10_init_6 (fun H locs hI => ?_)
  refine lv_aload_n hx hb dX10_init_9 rfl (lv_at hl 0 rfl) ?_
  refine lv_iload_n hx hb dX10_init_10 rfl (lv_at hl 2 rfl) ?_
  refine z_putX (i := 0) (j := 2) hM hI rfl hin7 tyX10 tyX10_ok nmX10 rfl (by decide) (by decide +kernel) (fun _ h9 => h9) rfl rfl rfl rfl (Nat.le_of_ble_eq_true rfl) dX10_init_11 (fun H locs hI => ?_)
  refine lv_aload_n hx hb dX10_init_14 rfl (lv_at hl 0 rfl) ?_
  refine lv_iload_n hx hb dX10_init_15 rfl (lv_at hl 3 rfl) ?_
  refine z_putXF (i := 0) (j := 0) hM hI hin2 rfl hin7 tyX10 tyX10_ok nmX10 rfl (by decide) (by decide +kernel) (fun _ h9 => h9) rfl rfl rfl rfl rfl (Nat.le_of_ble_eq_true rfl) dX10_init_16 (fun H locs hI => ?_)
  exact W.vret hx hb hr (fun t ht hW => ⟨⟨(L, κ, g), rfl, rfl, z_end hK hI ht hW⟩, z_F hI ht⟩) (z_locs hI) dX10_init_19

set_option maxHeartbeats 4000000 in
set_option maxRecDepth 100000 in
theorem c_X9_init (l : Launch) (D : va_G) (tc : Nat → ClassId) (z0 : Nat) (L : List Nat) (κ : Nat → Nat) (g : Nat → Nat → Value) (sz : Nat) (q i : Nat) (b : Int32) (hz : b = 0 ∨ b = 1) : Met l yX9_init wsX9_init ({ frames := 1, cells := 0, slots := 0, locals := 20 }) (zPc D tc z0 [.ref q, .int (nI i), .int b] ([(q, .inr (11, [.int 0, .int 0, .int 0, .int 0, .int 0, .int 0, .int 0, .int 0, .int 0, .int 0, .int 0, .int 0, .int 0, .int 0, .int 0, .int 0, .int 0, .int 0, .int 0]))] : va_W) (L, κ, g) sz) (va_Qv (fun (u : Int32 × zS) => u.2 = (L, κ, g)) (fun (u : Int32 × zS) (t : State) => zB D tc (zA ([(q, .inr (11, [.int 0, .int 0, .int 0, .int 0, .int 0, .int 0, .int 0, .int 0, .int 0, .int 0, .int 0, .int 0, .int 0, .int 0, .int 0, .int 0, .int 0, .int 0, .int 0]))] : va_W) L sz) [(q, .inr (11, [.int (nI i), .int u.1, .int b, .int 108, .int 97, .int 45, .int 0, .int 0, .int 0, .int 0, .int 400, .int 0, .int 0, .int 0, .int 20, .int 0, .int 0, .int 0, .int 0]))] u.2 t) (zA ([(q, .inr (11, [.int 0, .int 0, .int 0, .int 0, .int 0, .int 0, .int 0, .int 0, .int 0, .int 0, .int 0, .int 0, .int 0, .int 0, .int 0, .int 0, .int 0, .int 0, .int 0]))] : va_W) L sz)) 0 0 (zA ([(q, .inr (11, [.int 0, .int 0, .int 0, .int 0, .int 0, .int 0, .int 0, .int 0, .int 0, .int 0, .int 0, .int 0, .int 0, .int 0, .int 0, .int 0, .int 0, .int 0, .int 0]))] : va_W) L sz) := by
  refine Met.ofW (cc := cX9_init) (maxL := 3) (ret := none) (by decide) rfl ?_
  intro p e9 s m args below meth c s₁ B hml hv
  obtain ⟨rfl, rfl, hK, hE, hI⟩ := hv.opn
  have hx := B.exec
  have hb := B.bytes
  have hr := B.returns
  have hts := atoms_spec (ws := wsX9_init) B.pre
  have hown : s.vm.findClass RX9 = some m.cls := findClass_of_methodNamed B.named
  have hlocks := B.notSynchronized
  have hM : zM p s m c cX9_init _ wsX9_init RX9 D tc := ⟨hx, hb, hts, hown, hK⟩
  have hin2 : meth.name = "<init>" := (name_of_methodNamed B.named B.method).1
  have hl := lv_entry ([.ref q, .int (nI i), .int b]) (n := 3) (Nat.le_of_ble_eq_true rfl)
  rw [lg_entry_eq]
  generalize (lg_sl ([.ref q, .int (nI i), .int b]) ++ List.replicate (3 - (lg_sl ([.ref q, .int (nI i), .int b])).length) Slot.unset).toArray = ls at hl ⊢
  have hl : lv_has ls 3 [(0, .ref q), (1, .int (nI i)), (2, .int b)] := hl
  have hin7 : ∀ w ∈ wsX90, w ∈ wsX9_init := by decide +kernel
  refine lv_aload_n hx hb dX9_init_0 rfl (lv_at hl 0 rfl) ?_
  refine W.objInit hx hb hown (hts (.methodLink RX9 1 objectInit) (by decide +kernel)) (hts (.instanceMethod objectInit) (by decide +kernel)) (hts (.code objectInit ⟨#[0xb1]⟩ 1 none) (by decide +kernel)) rfl (by rw [hml]; exact hl.1) rfl dX9_init_1 (Nat.le_of_ble_eq_true rfl) (Nat.le_of_ble_eq_true rfl) ?_
  refine W.eq (g2 := F0 m 4 ls []) rfl ?_
  refine lv_aload_n hx hb dX9_init_4 rfl (lv_at hl 0 rfl) ?_
  refine lv_bipush (v := 108) hx hb dX9_init_5 (by decide) ?_
  refine z_putX (i := 0) (j := 3) hM hI rfl hin7 tyX9 tyX9_ok nmX9 rfl (by decide) (by decide +kernel) (fun _ h9 => h9) rfl rfl rfl rfl (Nat.le_of_ble_eq_true rfl) dX9_init_7 (fun H locs hI => ?_)
  refine lv_aload_n hx hb dX9_init_10 rfl (lv_at hl 0 rfl) ?_
  refine lv_bipush (v := 97) hx hb dX9_init_11 (by decide) ?_
  refine z_putX (i := 0) (j := 4) hM hI rfl hin7 tyX9 tyX9_ok nmX9 rfl (by decide) (by decide +kernel) (fun _ h9 => h9) rfl rfl rfl rfl (Nat.le_of_ble_eq_true rfl) dX9_init_13 (fun H locs hI => ?_)
  refine lv_aload_n hx hb dX9_init_16 rfl (lv_at hl 0 rfl) ?_
  refine lv_bipush (v := 45) hx hb dX9_init_17 (by decide) ?_
  refine z_putX (i := 0) (j := 5) hM hI rfl hin7 tyX9 tyX9_ok nmX9 rfl (by decide) (by decide +kernel) (fun _ h9 => h9) rfl rfl rfl rfl (Nat.le_of_ble_eq_true rfl) dX9_init_19 (fun H locs hI => ?_)
  refine lv_aload_n hx hb dX9_init_22 rfl (lv_at hl 0 rfl) ?_
  refine lv_sipush (v := 400) hx hb dX9_init_23 (by decide) ?_
  refine z_putX (i := 0) (j := 10) hM hI rfl hin7 tyX9 tyX9_ok nmX9 rfl (by decide) (by decide +kernel) (fun _ h9 => h9) rfl rfl rfl rfl (Nat.le_of_ble_eq_true rfl) dX9_init_26 (fun H locs hI => ?_)
  refine lv_aload_n hx hb dX9_init_29 rfl (lv_at hl 0 rfl) ?_
  refine lv_bipush (v := 20) hx hb dX9_init_30 (by decide) ?_
  refine z_putX (i := 0) (j := 14) hM hI rfl hin7 tyX9 tyX9_ok nmX9 rfl (by decide) (by decide +kernel) (fun _ h9 => h9) rfl rfl rfl rfl (Nat.le_of_ble_eq_true rfl) dX9_init_32 (fun H locs hI => ?_)
  refine lv_aload_n hx hb dX9_init_35 rfl (lv_at hl 0 rfl) ?_
  refine lv_iload_n hx hb dX9_init_36 rfl (lv_at hl 1 rfl) ?_
  refine z_putXF (i := 0) (j := 0) hM hI hin2 rfl hin7 tyX9 tyX9_ok nmX9 rfl (by decide) (by decide +kernel) (fun _ h9 => h9) rfl rfl rfl rfl rfl (Nat.le_of_ble_eq_true rfl) dX9_init_37 (fun H locs hI => ?_)
  refine lv_aload_n hx hb dX9_init_40 rfl (lv_at hl 0 rfl) ?_
  refine lv_iload_n hx hb dX9_init_41 rfl (lv_at hl 2 rfl) ?_
  refine z_putXF (i := 0) (j := 2) hM hI hin2 rfl hin7 tyX9 tyX9_ok nmX9 rfl (by decide) (by decide +kernel) (fun _ h9 => h9) rfl rfl rfl (z_bn hz) (z_bf hz) (Nat.le_of_ble_eq_true rfl) dX9_init_42 (fun H locs hI => ?_)
  refine lv_aload_n hx hb dX9_init_45 rfl (lv_at hl 0 rfl) ?_
  refine lv_iload_n hx hb dX9_init_46 rfl (lv_at hl 2 rfl) ?_
  refine lv_if_eq (tgt := 55) hx hb dX9_init_47 (by decide) (fun _ => ?_) (fun _ => ?_)
  · refine lv_iconst (v := 4) hx hb dX9_init_55 (by decide) ?_
    refine z_putXF (i := 0) (j := 1) hM hI hin2 rfl hin7 tyX9 tyX9_ok nmX9 rfl (by decide) (by decide +kernel) (fun _ h9 => h9) rfl rfl rfl rfl rfl (Nat.le_of_ble_eq_true rfl) dX9_init_56 (fun H locs hI => ?_)
    exact W.vret hx hb hr (fun t ht hW => ⟨⟨((4 : Int32), (L, κ, g)), rfl, rfl, z_end hK hI ht hW⟩, z_F hI ht⟩) (z_locs hI) dX9_init_59
  · refine lv_bipush (v := 7) hx hb dX9_init_50 (by decide) ?_
    refine lv_goto (tgt := 56) hx hb dX9_init_52 (by decide) ?_
    refine z_putXF (i := 0) (j := 1) hM hI hin2 rfl hin7 tyX9 tyX9_ok nmX9 rfl (by decide) (by decide +kernel) (fun _ h9 => h9) rfl rfl rfl rfl rfl (Nat.le_of_ble_eq_true rfl) dX9_init_56 (fun H locs hI => ?_)
    exact W.vret hx hb hr (fun t ht hW => ⟨⟨((7 : Int32), (L, κ, g)), rfl, rfl, z_end hK hI ht hW⟩, z_F hI ht⟩) (z_locs hI) dX9_init_59

set_option maxHeartbeats 4000000 in
set_option maxRecDepth 100000 in
theorem c_X11_core (l : Launch) (D : va_G) (tc : Nat → ClassId) (z0 : Nat) (L : List Nat) (κ : Nat → Nat) (g : Nat → Nat → Value) (sz : Nat) (p0 : Nat) (hk0 : κ p0 = 13) (p1 : Int32) (p2 : Int32) (lc eC nC : Nat) (mC : Int32) (cf : Nat → Nat) (lt eT nT : Nat) (mT : Int32) (tf : Nat → Nat) (hMo : zMo κ g z0 p0 lc eC nC mC cf lt eT nT mT tf) : Met l yX11_core wsX11_core ({ frames := 5, cells := 2, slots := 29, locals := 109 }) (zPc D tc z0 [.ref p0, .int p1, .int p2] [] (L, κ, g) sz) (va_Qi (fun (r : Int32) (u : zS) => (∃ v : Int32, ((v = 1 ∧ ¬ (0 ≤ p1 ∧ p1 ≤ 2)) ∨ (v = 2 ∧ (0 ≤ p1 ∧ p1 ≤ 2) ∧ ¬ p2 = 115 ∧ ¬ p2 = 98) ∨ (v = 3 ∧ (0 ≤ p1 ∧ p1 ≤ 2) ∧ (p2 = 115 ∨ p2 = 98) ∧ nC = 6)) ∧ r = 0 ∧ u = (L, κ, zup g p0 12 (.int v))) ∨ (∃ i, i < 3 ∧ p1 = nI i ∧ (p2 = 115 ∨ p2 = 98) ∧ nC < 6 ∧ r = nI nC ∧ ∃ e2 q, zMo u.2.1 u.2.2 z0 p0 lc e2 (nC + 1) (mC + 1) (va_up cf nC q) lt eT nT mT tf ∧ u.2.1 q = 11 ∧ u.2.2 q 3 = .int 108 ∧ u.2.2 q 15 = .int 0 ∧ u.2.2 p0 12 = .int 0 ∧ (∀ a, κ a < 99 → u.2.1 a = κ a) ∧ (∀ b j, κ b < 99 → b ≠ lc → κ b ≠ 25 → ¬ (b = p0 ∧ j = 12) → u.2.2 b j = g b j) ∧ ∀ b, κ b < 99 → b ≠ q)) (fun (u : zS) (t : State) => zB D tc (zA [] L sz) [] u t) (zA [] L sz)) 2 29 (zA [] L sz) := by
  refine Met.ofW (cc := cX11_core) (maxL := 3) (ret := (some .int)) (by decide) rfl ?_
  intro p e9 s m args below meth c s₁ B hml hv
  obtain ⟨rfl, rfl, hK, hE, hI⟩ := hv.opn
  have hx := B.exec
  have hb := B.bytes
  have hr := B.returns
  have hts := atoms_spec (ws := wsX11_core) B.pre
  have hown : s.vm.findClass RX11 = some m.cls := findClass_of_methodNamed B.named
  have hlocks := B.notSynchronized
  have hM : zM p s m c cX11_core _ wsX11_core RX11 D tc := ⟨hx, hb, hts, hown, hK⟩
  have hinX11 : ∀ w ∈ wsX110, w ∈ wsX11_core := by decide +kernel
  have hinX9 : ∀ w ∈ wsX90, w ∈ wsX11_core := by decide +kernel
  have hnC := hMo.bC
  have hnT := hMo.bT
  have hl := lv_entry ([.ref p0, .int p1, .int p2]) (n := 3) (Nat.le_of_ble_eq_true rfl)
  rw [lg_entry_eq]
  generalize (lg_sl ([.ref p0, .int p1, .int p2]) ++ List.replicate (3 - (lg_sl ([.ref p0, .int p1, .int p2])).length) Slot.unset).toArray = ls at hl ⊢
  have hl : lv_has ls 3 [(0, .ref p0), (1, .int p1), (2, .int p2)] := hl
  refine lv_aload_n hx hb dX11_core_0 rfl (lv_at hl 0 rfl) ?_
  refine lv_iload_n hx hb dX11_core_1 rfl (lv_at hl 1 rfl) ?_
  refine lv_iconst (v := 0) hx hb dX11_core_2 (by decide) ?_
  refine lv_iconst (v := 2) hx hb dX11_core_3 (by decide) ?_
  refine vp_callSi (W.runS (As := [.int p1, .int 0, .int 2]) (rest := [.ref p0]) ⟨hx, hb, hml, hown, hts⟩ (c_X11_in l D tc z0 _ κ g _ p1 0 2) (va_cwS 3 hts gX11_core_X11_in rfl rfl rfl (by decide +kernel) ⟨Nat.le_of_ble_eq_true rfl, Nat.le_of_ble_eq_true rfl⟩) (z_pre hK hE hI [] rfl rfl) rfl rfl hl.1 rfl (lv_room (Nat.le_of_ble_eq_true rfl)) dX11_core_4 ⟨(Nat.le_of_ble_eq_true rfl), (Nat.le_of_ble_eq_true rfl)⟩) (fun v1 hw2 => ?_)
  obtain ⟨hw2, hz3⟩ := hw2
  refine lv_if_ne (tgt := 14) hx hb dX11_core_7 (by decide) (fun c4 => ?_) (fun c4 => ?_)
  · skip
    refine lv_iload_n hx hb dX11_core_14 rfl (lv_at hl 2 rfl) ?_
    refine lv_bipush (v := 115) hx hb dX11_core_15 (by decide) ?_
    refine lv_icmp_eq (tgt := 30) hx hb dX11_core_17 (by decide) (fun c5 => ?_) (fun c5 => ?_)
    · skip
      refine lv_aload_n hx hb dX11_core_30 rfl (lv_at hl 0 rfl) ?_
      refine z_get (k := 13) (j := 0) hM hI hk0 rfl rfl hinX11 rfl (by decide) (by decide +kernel) (fun _ h9 => h9) dX11_core_31 (fun v6 hv7 => ?_)
      obtain ⟨hg9, i8, rfl, hr10⟩ := hv7
      obtain rfl : lc = i8 := Value.ref.inj (hMo.gc.symm.trans hg9.symm)
      refine va_csFi (va_runF (As := []) (rest := [.ref p0]) (hK.1 1 _ rfl).2 ⟨hx, hb, hml, hown, hts⟩ (c_Jx4a65c_size_8abf5 l D tc z0 _ κ g _ lc 1 eC 25 11 nC mC cf rfl hMo.LC) (va_cwF 0 hts gX11_core_Jx4a65c_size_8abf5_f46Jx4a65c rfl rfl rfl (hE.2.2.1 (RJx4a65c, ⟨"java/util/List", "size", "()I"⟩, yJx4a65c_size_8abf5) (by decide +kernel)) (by decide +kernel) ⟨Nat.le_of_ble_eq_true rfl, Nat.le_of_ble_eq_true rfl⟩) (z_preV (Xc := []) hK hE hI [] rfl rfl (z_recv hK hI hMo.LC.1 rfl rfl)) rfl rfl hl.1 rfl (lv_room (Nat.le_of_ble_eq_true rfl)) dX11_core_34 ⟨(Nat.le_of_ble_eq_true rfl), (Nat.le_of_ble_eq_true rfl)⟩) (fun v11 hw12 => ?_)
      obtain rfl := hw12
      refine lv_bipush (v := 6) hx hb dX11_core_39 (by decide) ?_
      refine lv_icmp_ne (tgt := 48) hx hb dX11_core_41 (by decide) (fun c13 => ?_) (fun c13 => ?_)
      · skip
        refine lv_iconst (v := 0) hx hb dX11_core_48 (by decide) ?_
        refine z_ciX (Xc := []) (wr := []) (rx := []) [] [] rfl rfl rfl rfl (by decide) hI (va_runV (As := [.int 0]) (rest := []) ⟨hx, hb, hml, hown, hts⟩ (c_X11_fails l D tc z0 _ κ g _ p0 hk0 0) (cwV 1 hts gX11_core_X11_fails rfl rfl rfl (by decide +kernel) ⟨Nat.le_of_ble_eq_true rfl, Nat.le_of_ble_eq_true rfl⟩) (z_preV (Xc := []) hK hE hI [] rfl rfl (z_recv hK hI hk0 rfl rfl)) rfl rfl hl.1 rfl (lv_room (Nat.le_of_ble_eq_true rfl)) dX11_core_49 ⟨(Nat.le_of_ble_eq_true rfl), (Nat.le_of_ble_eq_true rfl)⟩) (fun v14 u H locs hw15 hI => ?_)
        obtain ⟨hw15, rfl⟩ := hw15
        have hI : zI D tc _ s.heap [] L κ (zup g p0 12 (.int 0)) _ _ := hI
        have hMo := hMo.upP (j := 12) (v := .int 0) (by decide)
        obtain rfl : v14 = 0 := hw15.trans (by decide)
        refine lv_if_eq (tgt := 57) hx hb dX11_core_52 (by decide) (fun _ => ?_) (fun h9 => by first | exact absurd h9 (by decide) | exact absurd (by decide) h9)
        refine lv_aload_n hx hb dX11_core_57 rfl (lv_at hl 0 rfl) ?_
        refine z_get (k := 13) (j := 0) hM hI hk0 rfl rfl hinX11 rfl (by decide) (by decide +kernel) (fun _ h9 => h9) dX11_core_58 (fun v16 hv17 => ?_)
        obtain ⟨hg19, i18, rfl, hr20⟩ := hv17
        obtain rfl : lc = i18 := Value.ref.inj (hMo.gc.symm.trans hg19.symm)
        refine z_new (ci := 11) (fs := [.int 0, .int 0, .int 0, .int 0, .int 0, .int 0, .int 0, .int 0, .int 0, .int 0, .int 0, .int 0, .int 0, .int 0, .int 0, .int 0, .int 0, .int 0, .int 0]) (C := RX9) (T := TX9) (N := 19) hM hI hinX9 tyX9 tyX9_ok (by decide +kernel) (by decide +kernel) (by decide +kernel) rfl (by decide +kernel) (Nat.le_of_ble_eq_true rfl) (Nat.le_of_ble_eq_true rfl) dX11_core_61 (fun q H hI => ?_)
        have hI : zI D tc _ s.heap [(q, .inr (11, [.int 0, .int 0, .int 0, .int 0, .int 0, .int 0, .int 0, .int 0, .int 0, .int 0, .int 0, .int 0, .int 0, .int 0, .int 0, .int 0, .int 0, .int 0, .int 0]))] L κ (zup g p0 12 (.int 0)) _ _ := hI
        have hfr9 : ∀ b9 : Nat, κ b9 < 99 → b9 ≠ q := z_fresh hI
        refine lv_dup hx hb dX11_core_64 rfl ?_
        have hb9 : 0 ≤ p1 ∧ p1 ≤ 2 := Classical.not_not.mp (fun h => c4 (hw2.mpr h))
        obtain ⟨i9, hi9, hp9⟩ : ∃ i9, i9 < 3 ∧ p1 = nI i9 := vp_in_of (z_in02 hw2 c4) (by decide)
        have hlt9 : nC < 6 := by
          rcases Nat.lt_or_eq_of_le hnC with h | h
          · exact h
          · exact absurd (by rw [h]; rfl) c13
        have hkd : p2 = 115 ∨ p2 = 98 := by first | exact Or.inl (by assumption) | exact Or.inr (by assumption)
        rw [hp9] at hl
        refine lv_iload_n hx hb dX11_core_65 rfl (lv_at hl 1 rfl) ?_
        refine lv_iload_n hx hb dX11_core_66 rfl (lv_at hl 2 rfl) ?_
        refine lv_bipush (v := 98) hx hb dX11_core_67 (by decide) ?_
        refine lv_icmp_ne (tgt := 76) hx hb dX11_core_69 (by decide) (fun _ => ?_) (fun _ => ?_)
        · refine lv_iconst (v := 0) hx hb dX11_core_76 (by decide) ?_
          refine z_cvG (sel := fun u : Int32 × zS => u.2) (rxf := fun u : Int32 × zS => [(q, .inr (11, [.int (nI i9), .int u.1, .int 0, .int 108, .int 97, .int 45, .int 0, .int 0, .int 0, .int 0, .int 400, .int 0, .int 0, .int 0, .int 20, .int 0, .int 0, .int 0, .int 0]))]) (Xc := [(q, .inr (11, [.int 0, .int 0, .int 0, .int 0, .int 0, .int 0, .int 0, .int 0, .int 0, .int 0, .int 0, .int 0, .int 0, .int 0, .int 0, .int 0, .int 0, .int 0, .int 0]))]) (wr := []) [0] [] rfl rfl rfl rfl (by decide) hI (va_runI (As := [.int (nI i9), .int 0]) (rest := [.ref q, .ref lc]) ⟨hx, hb, hml, hown, hts⟩ (c_X9_init l D tc z0 _ κ (zup g p0 12 (.int 0)) _ q i9 0 (by first | exact Or.inl rfl | exact Or.inr rfl)) (cwI 2 hts gX11_core_X9_init rfl rfl rfl (hts (.initialized RX9) (by decide +kernel)) (hts (.methodLink RX11 84 yX9_init) (by decide +kernel)) (hts (.instanceMethod yX9_init) (by decide +kernel)) rfl (by decide +kernel) ⟨Nat.le_of_ble_eq_true rfl, Nat.le_of_ble_eq_true rfl⟩) (z_pre (Xc := [(q, .inr (11, [.int 0, .int 0, .int 0, .int 0, .int 0, .int 0, .int 0, .int 0, .int 0, .int 0, .int 0, .int 0, .int 0, .int 0, .int 0, .int 0, .int 0, .int 0, .int 0]))]) hK hE hI [0] rfl rfl) rfl rfl hl.1 rfl (lv_room (Nat.le_of_ble_eq_true rfl)) dX11_core_77 ⟨Nat.le_of_ble_eq_true rfl, Nat.le_of_ble_eq_true rfl⟩) (fun u H locs hw hI => ?_)
          obtain ⟨m9, u⟩ := u
          dsimp only at hw hI
          subst hw
          have hI : zI D tc _ s.heap [(q, .inr (11, [.int (nI i9), .int m9, .int 0, .int 108, .int 97, .int 45, .int 0, .int 0, .int 0, .int 0, .int 400, .int 0, .int 0, .int 0, .int 20, .int 0, .int 0, .int 0, .int 0]))] L κ (zup g p0 12 (.int 0)) _ _ := hI
          obtain ⟨L2, κ2, g2, hx2, hq2, hv2, hI⟩ := z_poolG (k := 11) (fun j => ([.int (nI i9), .int m9, .int 0, .int 108, .int 97, .int 45, .int 0, .int 0, .int 0, .int 0, .int 400, .int 0, .int 0, .int 0, .int 20, .int 0, .int 0, .int 0, .int 0] : List Value).getD j .null) hI (by decide) (fun κ9 g9 hκ9 hκ8 hg9 => zc_O rfl (zvs_cons ⟨i9, hi9, rfl⟩ rfl (zvs_cons ⟨_, rfl⟩ rfl (zvs_cons (by first | exact Or.inl rfl | exact Or.inr rfl) rfl (zvs_cons ⟨(hg9 3).symm, _, rfl, by decide⟩ rfl (zvs_cons ⟨_, rfl, by decide⟩ rfl (zvs_cons ⟨_, rfl, by decide⟩ rfl (zvs_cons ⟨_, rfl⟩ rfl (zvs_cons ⟨_, rfl⟩ rfl (zvs_cons ⟨_, rfl⟩ rfl (zvs_cons ⟨_, rfl⟩ rfl (zvs_cons ⟨_, rfl⟩ rfl (zvs_cons ⟨_, rfl⟩ rfl (zvs_cons ⟨_, rfl⟩ rfl (zvs_cons ⟨_, rfl⟩ rfl (zvs_cons ⟨_, rfl⟩ rfl (zvs_cons ⟨(hg9 15).symm, Or.inl rfl⟩ rfl (zvs_cons (by first | exact Or.inl rfl | exact Or.inr rfl) rfl (zvs_cons (by first | exact Or.inl rfl | exact Or.inr rfl) rfl (zvs_cons (by first | exact Or.inl rfl | exact Or.inr rfl) rfl zvs_nil))))))))))))))))))))
          have hMo2 := hMo.ext hx2
          refine z_iFX (sel := fun u : zS => u) (rxf := fun _ => []) (Xc := []) (wr := []) [] [] rfl rfl rfl rfl (by decide) hI (va_runF (As := [.ref q]) (rest := []) (hK.1 1 _ rfl).2 ⟨hx, hb, hml, hown, hts⟩ (c_Jx4a65c_add_9ea2d l D tc z0 _ κ2 g2 _ lc 1 eC 25 11 nC mC cf rfl hMo2.LC rfl rfl (by decide) (by decide) (by decide) 11 _ q hq2 (by omega) (by decide) (by decide) RX9 TX9 19 rfl rfl (by decide +kernel)) (va_cwF 1 hts gX11_core_Jx4a65c_add_9ea2d_f87Jx4a65c rfl rfl rfl (hE.2.2.1 (RJx4a65c, ⟨"java/util/List", "add", "(Ljava/lang/Object;)Z"⟩, yJx4a65c_add_9ea2d) (by decide +kernel)) (by decide +kernel) ⟨Nat.le_of_ble_eq_true rfl, Nat.le_of_ble_eq_true rfl⟩) (z_preV (Xc := []) hK hE hI [] rfl rfl (z_recv hK hI hMo2.LC.1 rfl rfl)) rfl rfl hl.1 rfl (lv_room (Nat.le_of_ble_eq_true rfl)) dX11_core_80 ⟨Nat.le_of_ble_eq_true rfl, Nat.le_of_ble_eq_true rfl⟩) (fun r9 u H locs hw hI => ?_)
          obtain ⟨rfl, e2, hz1, hz2, hz3⟩ := hw
          obtain ⟨L3, κ3, g3⟩ := u
          dsimp only at hz1 hz2 hz3 hI
          have hMo3 := hMo2.addC hz1 hz2 hz3 (by omega)
          refine lv_pop hx hb dX11_core_85 rfl ?_
          refine lv_aload_n hx hb dX11_core_86 rfl (lv_at hl 0 rfl) ?_
          refine z_get (k := 13) (j := 0) hM hI hMo3.k rfl rfl hinX11 rfl (by decide) (by decide +kernel) (fun _ h9 => h9) dX11_core_87 (fun v9 hv9 => ?_)
          obtain ⟨hg9, i8, rfl, hr9⟩ := hv9
          obtain rfl : lc = i8 := Value.ref.inj (hMo3.gc.symm.trans hg9.symm)
          refine va_csFi (va_runF (As := []) (rest := []) (hK.1 1 _ rfl).2 ⟨hx, hb, hml, hown, hts⟩ (c_Jx4a65c_size_8abf5 l D tc z0 _ κ3 g3 _ lc 1 e2 25 11 (nC + 1) (mC + 1) (va_up cf nC q) rfl hMo3.LC) (va_cwF 0 hts gX11_core_Jx4a65c_size_8abf5_f46Jx4a65c rfl rfl rfl (hE.2.2.1 (RJx4a65c, ⟨"java/util/List", "size", "()I"⟩, yJx4a65c_size_8abf5) (by decide +kernel)) (by decide +kernel) ⟨Nat.le_of_ble_eq_true rfl, Nat.le_of_ble_eq_true rfl⟩) (z_preV (Xc := []) hK hE hI [] rfl rfl (z_recv hK hI hMo3.LC.1 rfl rfl)) rfl rfl hl.1 rfl (lv_room (Nat.le_of_ble_eq_true rfl)) dX11_core_90 ⟨Nat.le_of_ble_eq_true rfl, Nat.le_of_ble_eq_true rfl⟩) (fun v8 hw8 => ?_)
          obtain rfl := hw8
          refine lv_iconst (v := 1) hx hb dX11_core_95 (by decide) ?_
          refine lv_isub hx hb dX11_core_96 ?_
          rw [nI_pred]
          exact W.iret (v := nI nC) hx hb hr (fun t ht hW => ⟨⟨_, (L3, κ3, g3), rfl, Or.inr ⟨i9, hi9, hp9, hkd, hlt9, rfl, e2, q, hMo3, (hz2 q (by rw [hq2]; decide)).trans hq2, (hz3 q 3 (by rw [hq2]; decide) (fun h => absurd (hq2.symm.trans (h ▸ hMo2.LC.1)) (by decide)) (by rw [hq2]; decide)).trans (hv2 3), (hz3 q 15 (by rw [hq2]; decide) (fun h => absurd (hq2.symm.trans (h ▸ hMo2.LC.1)) (by decide)) (by rw [hq2]; decide)).trans (hv2 15), (hz3 p0 12 (by rw [hMo2.k]; decide) (fun h => absurd (hMo2.k.symm.trans (h ▸ hMo2.LC.1)) (by decide)) (by rw [hMo2.k]; decide)).trans ((hx2.2 p0 12 (by rw [hMo.k]; decide)).trans (zup_self _ _ _ _)), fun a h => (hz2 a (by rw [hx2.1 a h]; exact h)).trans (hx2.1 a h), (fun b j h1 h2 h3 h4 => (hz3 b j (by rw [hx2.1 b h1]; exact h1) h2 (by rw [hx2.1 b h1]; exact h3)).trans ((hx2.2 b j h1).trans (zup_ne (Classical.not_and_iff_not_or_not.mp h4)))), hfr9⟩, z_endG hK hI ht hW⟩, z_F hI ht⟩) (z_locs hI) dX11_core_97
        · refine lv_iconst (v := 1) hx hb dX11_core_72 (by decide) ?_
          refine lv_goto (tgt := 77) hx hb dX11_core_73 (by decide) ?_
          refine z_cvG (sel := fun u : Int32 × zS => u.2) (rxf := fun u : Int32 × zS => [(q, .inr (11, [.int (nI i9), .int u.1, .int 1, .int 108, .int 97, .int 45, .int 0, .int 0, .int 0, .int 0, .int 400, .int 0, .int 0, .int 0, .int 20, .int 0, .int 0, .int 0, .int 0]))]) (Xc := [(q, .inr (11, [.int 0, .int 0, .int 0, .int 0, .int 0, .int 0, .int 0, .int 0, .int 0, .int 0, .int 0, .int 0, .int 0, .int 0, .int 0, .int 0, .int 0, .int 0, .int 0]))]) (wr := []) [0] [] rfl rfl rfl rfl (by decide) hI (va_runI (As := [.int (nI i9), .int 1]) (rest := [.ref q, .ref lc]) ⟨hx, hb, hml, hown, hts⟩ (c_X9_init l D tc z0 _ κ (zup g p0 12 (.int 0)) _ q i9 1 (by first | exact Or.inl rfl | exact Or.inr rfl)) (cwI 2 hts gX11_core_X9_init rfl rfl rfl (hts (.initialized RX9) (by decide +kernel)) (hts (.methodLink RX11 84 yX9_init) (by decide +kernel)) (hts (.instanceMethod yX9_init) (by decide +kernel)) rfl (by decide +kernel) ⟨Nat.le_of_ble_eq_true rfl, Nat.le_of_ble_eq_true rfl⟩) (z_pre (Xc := [(q, .inr (11, [.int 0, .int 0, .int 0, .int 0, .int 0, .int 0, .int 0, .int 0, .int 0, .int 0, .int 0, .int 0, .int 0, .int 0, .int 0, .int 0, .int 0, .int 0, .int 0]))]) hK hE hI [0] rfl rfl) rfl rfl hl.1 rfl (lv_room (Nat.le_of_ble_eq_true rfl)) dX11_core_77 ⟨Nat.le_of_ble_eq_true rfl, Nat.le_of_ble_eq_true rfl⟩) (fun u H locs hw hI => ?_)
          obtain ⟨m9, u⟩ := u
          dsimp only at hw hI
          subst hw
          have hI : zI D tc _ s.heap [(q, .inr (11, [.int (nI i9), .int m9, .int 1, .int 108, .int 97, .int 45, .int 0, .int 0, .int 0, .int 0, .int 400, .int 0, .int 0, .int 0, .int 20, .int 0, .int 0, .int 0, .int 0]))] L κ (zup g p0 12 (.int 0)) _ _ := hI
          obtain ⟨L2, κ2, g2, hx2, hq2, hv2, hI⟩ := z_poolG (k := 11) (fun j => ([.int (nI i9), .int m9, .int 1, .int 108, .int 97, .int 45, .int 0, .int 0, .int 0, .int 0, .int 400, .int 0, .int 0, .int 0, .int 20, .int 0, .int 0, .int 0, .int 0] : List Value).getD j .null) hI (by decide) (fun κ9 g9 hκ9 hκ8 hg9 => zc_O rfl (zvs_cons ⟨i9, hi9, rfl⟩ rfl (zvs_cons ⟨_, rfl⟩ rfl (zvs_cons (by first | exact Or.inl rfl | exact Or.inr rfl) rfl (zvs_cons ⟨(hg9 3).symm, _, rfl, by decide⟩ rfl (zvs_cons ⟨_, rfl, by decide⟩ rfl (zvs_cons ⟨_, rfl, by decide⟩ rfl (zvs_cons ⟨_, rfl⟩ rfl (zvs_cons ⟨_, rfl⟩ rfl (zvs_cons ⟨_, rfl⟩ rfl (zvs_cons ⟨_, rfl⟩ rfl (zvs_cons ⟨_, rfl⟩ rfl (zvs_cons ⟨_, rfl⟩ rfl (zvs_cons ⟨_, rfl⟩ rfl (zvs_cons ⟨_, rfl⟩ rfl (zvs_cons ⟨_, rfl⟩ rfl (zvs_cons ⟨(hg9 15).symm, Or.inl rfl⟩ rfl (zvs_cons (by first | exact Or.inl rfl | exact Or.inr rfl) rfl (zvs_cons (by first | exact Or.inl rfl | exact Or.inr rfl) rfl (zvs_cons (by first | exact Or.inl rfl | exact Or.inr rfl) rfl zvs_nil))))))))))))))))))))
          have hMo2 := hMo.ext hx2
          refine z_iFX (sel := fun u : zS => u) (rxf := fun _ => []) (Xc := []) (wr := []) [] [] rfl rfl rfl rfl (by decide) hI (va_runF (As := [.ref q]) (rest := []) (hK.1 1 _ rfl).2 ⟨hx, hb, hml, hown, hts⟩ (c_Jx4a65c_add_9ea2d l D tc z0 _ κ2 g2 _ lc 1 eC 25 11 nC mC cf rfl hMo2.LC rfl rfl (by decide) (by decide) (by decide) 11 _ q hq2 (by omega) (by decide) (by decide) RX9 TX9 19 rfl rfl (by decide +kernel)) (va_cwF 1 hts gX11_core_Jx4a65c_add_9ea2d_f87Jx4a65c rfl rfl rfl (hE.2.2.1 (RJx4a65c, ⟨"java/util/List", "add", "(Ljava/lang/Object;)Z"⟩, yJx4a65c_add_9ea2d) (by decide +kernel)) (by decide +kernel) ⟨Nat.le_of_ble_eq_true rfl, Nat.le_of_ble_eq_true rfl⟩) (z_preV (Xc := []) hK hE hI [] rfl rfl (z_recv hK hI hMo2.LC.1 rfl rfl)) rfl rfl hl.1 rfl (lv_room (Nat.le_of_ble_eq_true rfl)) dX11_core_80 ⟨Nat.le_of_ble_eq_true rfl, Nat.le_of_ble_eq_true rfl⟩) (fun r9 u H locs hw hI => ?_)
          obtain ⟨rfl, e2, hz1, hz2, hz3⟩ := hw
          obtain ⟨L3, κ3, g3⟩ := u
          dsimp only at hz1 hz2 hz3 hI
          have hMo3 := hMo2.addC hz1 hz2 hz3 (by omega)
          refine lv_pop hx hb dX11_core_85 rfl ?_
          refine lv_aload_n hx hb dX11_core_86 rfl (lv_at hl 0 rfl) ?_
          refine z_get (k := 13) (j := 0) hM hI hMo3.k rfl rfl hinX11 rfl (by decide) (by decide +kernel) (fun _ h9 => h9) dX11_core_87 (fun v9 hv9 => ?_)
          obtain ⟨hg9, i8, rfl, hr9⟩ := hv9
          obtain rfl : lc = i8 := Value.ref.inj (hMo3.gc.symm.trans hg9.symm)
          refine va_csFi (va_runF (As := []) (rest := []) (hK.1 1 _ rfl).2 ⟨hx, hb, hml, hown, hts⟩ (c_Jx4a65c_size_8abf5 l D tc z0 _ κ3 g3 _ lc 1 e2 25 11 (nC + 1) (mC + 1) (va_up cf nC q) rfl hMo3.LC) (va_cwF 0 hts gX11_core_Jx4a65c_size_8abf5_f46Jx4a65c rfl rfl rfl (hE.2.2.1 (RJx4a65c, ⟨"java/util/List", "size", "()I"⟩, yJx4a65c_size_8abf5) (by decide +kernel)) (by decide +kernel) ⟨Nat.le_of_ble_eq_true rfl, Nat.le_of_ble_eq_true rfl⟩) (z_preV (Xc := []) hK hE hI [] rfl rfl (z_recv hK hI hMo3.LC.1 rfl rfl)) rfl rfl hl.1 rfl (lv_room (Nat.le_of_ble_eq_true rfl)) dX11_core_90 ⟨Nat.le_of_ble_eq_true rfl, Nat.le_of_ble_eq_true rfl⟩) (fun v8 hw8 => ?_)
          obtain rfl := hw8
          refine lv_iconst (v := 1) hx hb dX11_core_95 (by decide) ?_
          refine lv_isub hx hb dX11_core_96 ?_
          rw [nI_pred]
          exact W.iret (v := nI nC) hx hb hr (fun t ht hW => ⟨⟨_, (L3, κ3, g3), rfl, Or.inr ⟨i9, hi9, hp9, hkd, hlt9, rfl, e2, q, hMo3, (hz2 q (by rw [hq2]; decide)).trans hq2, (hz3 q 3 (by rw [hq2]; decide) (fun h => absurd (hq2.symm.trans (h ▸ hMo2.LC.1)) (by decide)) (by rw [hq2]; decide)).trans (hv2 3), (hz3 q 15 (by rw [hq2]; decide) (fun h => absurd (hq2.symm.trans (h ▸ hMo2.LC.1)) (by decide)) (by rw [hq2]; decide)).trans (hv2 15), (hz3 p0 12 (by rw [hMo2.k]; decide) (fun h => absurd (hMo2.k.symm.trans (h ▸ hMo2.LC.1)) (by decide)) (by rw [hMo2.k]; decide)).trans ((hx2.2 p0 12 (by rw [hMo.k]; decide)).trans (zup_self _ _ _ _)), fun a h => (hz2 a (by rw [hx2.1 a h]; exact h)).trans (hx2.1 a h), (fun b j h1 h2 h3 h4 => (hz3 b j (by rw [hx2.1 b h1]; exact h1) h2 (by rw [hx2.1 b h1]; exact h3)).trans ((hx2.2 b j h1).trans (zup_ne (Classical.not_and_iff_not_or_not.mp h4)))), hfr9⟩, z_endG hK hI ht hW⟩, z_F hI ht⟩) (z_locs hI) dX11_core_97
      · skip
        refine lv_iconst (v := 3) hx hb dX11_core_44 (by decide) ?_
        refine lv_goto (tgt := 49) hx hb dX11_core_45 (by decide) ?_
        refine z_ciX (Xc := []) (wr := []) (rx := []) [] [] rfl rfl rfl rfl (by decide) hI (va_runV (As := [.int 3]) (rest := []) ⟨hx, hb, hml, hown, hts⟩ (c_X11_fails l D tc z0 _ κ g _ p0 hk0 3) (cwV 1 hts gX11_core_X11_fails rfl rfl rfl (by decide +kernel) ⟨Nat.le_of_ble_eq_true rfl, Nat.le_of_ble_eq_true rfl⟩) (z_preV (Xc := []) hK hE hI [] rfl rfl (z_recv hK hI hk0 rfl rfl)) rfl rfl hl.1 rfl (lv_room (Nat.le_of_ble_eq_true rfl)) dX11_core_49 ⟨(Nat.le_of_ble_eq_true rfl), (Nat.le_of_ble_eq_true rfl)⟩) (fun v21 u H locs hw22 hI => ?_)
        obtain ⟨hw22, rfl⟩ := hw22
        have hI : zI D tc _ s.heap [] L κ (zup g p0 12 (.int 3)) _ _ := hI
        have hMo := hMo.upP (j := 12) (v := .int 3) (by decide)
        obtain rfl : v21 = 1 := hw22.trans (by decide)
        refine lv_if_eq (tgt := 57) hx hb dX11_core_52 (by decide) (fun h9 => by first | exact absurd h9 (by decide) | exact absurd (by decide) h9) (fun _ => ?_)
        refine lv_iconst (v := 0) hx hb dX11_core_55 (by decide) ?_
        refine W.widen (k := 2) (n := 29) (Nat.le_of_ble_eq_true rfl) (Nat.le_of_ble_eq_true rfl) ?_
        exact W.iret (v := 0) hx hb hr (fun t ht hW => ⟨⟨_, (L, κ, (zup g p0 12 (.int 3))), rfl, (Or.inl ⟨_, Or.inr (Or.inr ⟨rfl, Classical.not_not.mp (fun h => c4 (hw2.mpr h)), (by first | exact Or.inl (by assumption) | exact Or.inr (by assumption)), (nI_eq (by omega) (by decide)).mp c13⟩), rfl, rfl⟩), z_end hK hI ht hW⟩, z_F hI ht⟩) (z_locs hI) dX11_core_56
    · skip
      refine lv_iload_n hx hb dX11_core_20 rfl (lv_at hl 2 rfl) ?_
      refine lv_bipush (v := 98) hx hb dX11_core_21 (by decide) ?_
      refine lv_icmp_eq (tgt := 30) hx hb dX11_core_23 (by decide) (fun c23 => ?_) (fun c23 => ?_)
      · skip
        refine lv_aload_n hx hb dX11_core_30 rfl (lv_at hl 0 rfl) ?_
        refine z_get (k := 13) (j := 0) hM hI hk0 rfl rfl hinX11 rfl (by decide) (by decide +kernel) (fun _ h9 => h9) dX11_core_31 (fun v24 hv25 => ?_)
        obtain ⟨hg27, i26, rfl, hr28⟩ := hv25
        obtain rfl : lc = i26 := Value.ref.inj (hMo.gc.symm.trans hg27.symm)
        refine va_csFi (va_runF (As := []) (rest := [.ref p0]) (hK.1 1 _ rfl).2 ⟨hx, hb, hml, hown, hts⟩ (c_Jx4a65c_size_8abf5 l D tc z0 _ κ g _ lc 1 eC 25 11 nC mC cf rfl hMo.LC) (va_cwF 0 hts gX11_core_Jx4a65c_size_8abf5_f46Jx4a65c rfl rfl rfl (hE.2.2.1 (RJx4a65c, ⟨"java/util/List", "size", "()I"⟩, yJx4a65c_size_8abf5) (by decide +kernel)) (by decide +kernel) ⟨Nat.le_of_ble_eq_true rfl, Nat.le_of_ble_eq_true rfl⟩) (z_preV (Xc := []) hK hE hI [] rfl rfl (z_recv hK hI hMo.LC.1 rfl rfl)) rfl rfl hl.1 rfl (lv_room (Nat.le_of_ble_eq_true rfl)) dX11_core_34 ⟨(Nat.le_of_ble_eq_true rfl), (Nat.le_of_ble_eq_true rfl)⟩) (fun v29 hw30 => ?_)
        obtain rfl := hw30
        refine lv_bipush (v := 6) hx hb dX11_core_39 (by decide) ?_
        refine lv_icmp_ne (tgt := 48) hx hb dX11_core_41 (by decide) (fun c31 => ?_) (fun c31 => ?_)
        · skip
          refine lv_iconst (v := 0) hx hb dX11_core_48 (by decide) ?_
          refine z_ciX (Xc := []) (wr := []) (rx := []) [] [] rfl rfl rfl rfl (by decide) hI (va_runV (As := [.int 0]) (rest := []) ⟨hx, hb, hml, hown, hts⟩ (c_X11_fails l D tc z0 _ κ g _ p0 hk0 0) (cwV 1 hts gX11_core_X11_fails rfl rfl rfl (by decide +kernel) ⟨Nat.le_of_ble_eq_true rfl, Nat.le_of_ble_eq_true rfl⟩) (z_preV (Xc := []) hK hE hI [] rfl rfl (z_recv hK hI hk0 rfl rfl)) rfl rfl hl.1 rfl (lv_room (Nat.le_of_ble_eq_true rfl)) dX11_core_49 ⟨(Nat.le_of_ble_eq_true rfl), (Nat.le_of_ble_eq_true rfl)⟩) (fun v32 u H locs hw33 hI => ?_)
          obtain ⟨hw33, rfl⟩ := hw33
          have hI : zI D tc _ s.heap [] L κ (zup g p0 12 (.int 0)) _ _ := hI
          have hMo := hMo.upP (j := 12) (v := .int 0) (by decide)
          obtain rfl : v32 = 0 := hw33.trans (by decide)
          refine lv_if_eq (tgt := 57) hx hb dX11_core_52 (by decide) (fun _ => ?_) (fun h9 => by first | exact absurd h9 (by decide) | exact absurd (by decide) h9)
          refine lv_aload_n hx hb dX11_core_57 rfl (lv_at hl 0 rfl) ?_
          refine z_get (k := 13) (j := 0) hM hI hk0 rfl rfl hinX11 rfl (by decide) (by decide +kernel) (fun _ h9 => h9) dX11_core_58 (fun v34 hv35 => ?_)
          obtain ⟨hg37, i36, rfl, hr38⟩ := hv35
          obtain rfl : lc = i36 := Value.ref.inj (hMo.gc.symm.trans hg37.symm)
          refine z_new (ci := 11) (fs := [.int 0, .int 0, .int 0, .int 0, .int 0, .int 0, .int 0, .int 0, .int 0, .int 0, .int 0, .int 0, .int 0, .int 0, .int 0, .int 0, .int 0, .int 0, .int 0]) (C := RX9) (T := TX9) (N := 19) hM hI hinX9 tyX9 tyX9_ok (by decide +kernel) (by decide +kernel) (by decide +kernel) rfl (by decide +kernel) (Nat.le_of_ble_eq_true rfl) (Nat.le_of_ble_eq_true rfl) dX11_core_61 (fun q H hI => ?_)
          have hI : zI D tc _ s.heap [(q, .inr (11, [.int 0, .int 0, .int 0, .int 0, .int 0, .int 0, .int 0, .int 0, .int 0, .int 0, .int 0, .int 0, .int 0, .int 0, .int 0, .int 0, .int 0, .int 0, .int 0]))] L κ (zup g p0 12 (.int 0)) _ _ := hI
          have hfr9 : ∀ b9 : Nat, κ b9 < 99 → b9 ≠ q := z_fresh hI
          refine lv_dup hx hb dX11_core_64 rfl ?_
          have hb9 : 0 ≤ p1 ∧ p1 ≤ 2 := Classical.not_not.mp (fun h => c4 (hw2.mpr h))
          obtain ⟨i9, hi9, hp9⟩ : ∃ i9, i9 < 3 ∧ p1 = nI i9 := vp_in_of (z_in02 hw2 c4) (by decide)
          have hlt9 : nC < 6 := by
            rcases Nat.lt_or_eq_of_le hnC with h | h
            · exact h
            · exact absurd (by rw [h]; rfl) c31
          have hkd : p2 = 115 ∨ p2 = 98 := by first | exact Or.inl (by assumption) | exact Or.inr (by assumption)
          rw [hp9] at hl
          refine lv_iload_n hx hb dX11_core_65 rfl (lv_at hl 1 rfl) ?_
          refine lv_iload_n hx hb dX11_core_66 rfl (lv_at hl 2 rfl) ?_
          refine lv_bipush (v := 98) hx hb dX11_core_67 (by decide) ?_
          refine lv_icmp_ne (tgt := 76) hx hb dX11_core_69 (by decide) (fun _ => ?_) (fun _ => ?_)
          · refine lv_iconst (v := 0) hx hb dX11_core_76 (by decide) ?_
            refine z_cvG (sel := fun u : Int32 × zS => u.2) (rxf := fun u : Int32 × zS => [(q, .inr (11, [.int (nI i9), .int u.1, .int 0, .int 108, .int 97, .int 45, .int 0, .int 0, .int 0, .int 0, .int 400, .int 0, .int 0, .int 0, .int 20, .int 0, .int 0, .int 0, .int 0]))]) (Xc := [(q, .inr (11, [.int 0, .int 0, .int 0, .int 0, .int 0, .int 0, .int 0, .int 0, .int 0, .int 0, .int 0, .int 0, .int 0, .int 0, .int 0, .int 0, .int 0, .int 0, .int 0]))]) (wr := []) [0] [] rfl rfl rfl rfl (by decide) hI (va_runI (As := [.int (nI i9), .int 0]) (rest := [.ref q, .ref lc]) ⟨hx, hb, hml, hown, hts⟩ (c_X9_init l D tc z0 _ κ (zup g p0 12 (.int 0)) _ q i9 0 (by first | exact Or.inl rfl | exact Or.inr rfl)) (cwI 2 hts gX11_core_X9_init rfl rfl rfl (hts (.initialized RX9) (by decide +kernel)) (hts (.methodLink RX11 84 yX9_init) (by decide +kernel)) (hts (.instanceMethod yX9_init) (by decide +kernel)) rfl (by decide +kernel) ⟨Nat.le_of_ble_eq_true rfl, Nat.le_of_ble_eq_true rfl⟩) (z_pre (Xc := [(q, .inr (11, [.int 0, .int 0, .int 0, .int 0, .int 0, .int 0, .int 0, .int 0, .int 0, .int 0, .int 0, .int 0, .int 0, .int 0, .int 0, .int 0, .int 0, .int 0, .int 0]))]) hK hE hI [0] rfl rfl) rfl rfl hl.1 rfl (lv_room (Nat.le_of_ble_eq_true rfl)) dX11_core_77 ⟨Nat.le_of_ble_eq_true rfl, Nat.le_of_ble_eq_true rfl⟩) (fun u H locs hw hI => ?_)
            obtain ⟨m9, u⟩ := u
            dsimp only at hw hI
            subst hw
            have hI : zI D tc _ s.heap [(q, .inr (11, [.int (nI i9), .int m9, .int 0, .int 108, .int 97, .int 45, .int 0, .int 0, .int 0, .int 0, .int 400, .int 0, .int 0, .int 0, .int 20, .int 0, .int 0, .int 0, .int 0]))] L κ (zup g p0 12 (.int 0)) _ _ := hI
            obtain ⟨L2, κ2, g2, hx2, hq2, hv2, hI⟩ := z_poolG (k := 11) (fun j => ([.int (nI i9), .int m9, .int 0, .int 108, .int 97, .int 45, .int 0, .int 0, .int 0, .int 0, .int 400, .int 0, .int 0, .int 0, .int 20, .int 0, .int 0, .int 0, .int 0] : List Value).getD j .null) hI (by decide) (fun κ9 g9 hκ9 hκ8 hg9 => zc_O rfl (zvs_cons ⟨i9, hi9, rfl⟩ rfl (zvs_cons ⟨_, rfl⟩ rfl (zvs_cons (by first | exact Or.inl rfl | exact Or.inr rfl) rfl (zvs_cons ⟨(hg9 3).symm, _, rfl, by decide⟩ rfl (zvs_cons ⟨_, rfl, by decide⟩ rfl (zvs_cons ⟨_, rfl, by decide⟩ rfl (zvs_cons ⟨_, rfl⟩ rfl (zvs_cons ⟨_, rfl⟩ rfl (zvs_cons ⟨_, rfl⟩ rfl (zvs_cons ⟨_, rfl⟩ rfl (zvs_cons ⟨_, rfl⟩ rfl (zvs_cons ⟨_, rfl⟩ rfl (zvs_cons ⟨_, rfl⟩ rfl (zvs_cons ⟨_, rfl⟩ rfl (zvs_cons ⟨_, rfl⟩ rfl (zvs_cons ⟨(hg9 15).symm, Or.inl rfl⟩ rfl (zvs_cons (by first | exact Or.inl rfl | exact Or.inr rfl) rfl (zvs_cons (by first | exact Or.inl rfl | exact Or.inr rfl) rfl (zvs_cons (by first | exact Or.inl rfl | exact Or.inr rfl) rfl zvs_nil))))))))))))))))))))
            have hMo2 := hMo.ext hx2
            refine z_iFX (sel := fun u : zS => u) (rxf := fun _ => []) (Xc := []) (wr := []) [] [] rfl rfl rfl rfl (by decide) hI (va_runF (As := [.ref q]) (rest := []) (hK.1 1 _ rfl).2 ⟨hx, hb, hml, hown, hts⟩ (c_Jx4a65c_add_9ea2d l D tc z0 _ κ2 g2 _ lc 1 eC 25 11 nC mC cf rfl hMo2.LC rfl rfl (by decide) (by decide) (by decide) 11 _ q hq2 (by omega) (by decide) (by decide) RX9 TX9 19 rfl rfl (by decide +kernel)) (va_cwF 1 hts gX11_core_Jx4a65c_add_9ea2d_f87Jx4a65c rfl rfl rfl (hE.2.2.1 (RJx4a65c, ⟨"java/util/List", "add", "(Ljava/lang/Object;)Z"⟩, yJx4a65c_add_9ea2d) (by decide +kernel)) (by decide +kernel) ⟨Nat.le_of_ble_eq_true rfl, Nat.le_of_ble_eq_true rfl⟩) (z_preV (Xc := []) hK hE hI [] rfl rfl (z_recv hK hI hMo2.LC.1 rfl rfl)) rfl rfl hl.1 rfl (lv_room (Nat.le_of_ble_eq_true rfl)) dX11_core_80 ⟨Nat.le_of_ble_eq_true rfl, Nat.le_of_ble_eq_true rfl⟩) (fun r9 u H locs hw hI => ?_)
            obtain ⟨rfl, e2, hz1, hz2, hz3⟩ := hw
            obtain ⟨L3, κ3, g3⟩ := u
            dsimp only at hz1 hz2 hz3 hI
            have hMo3 := hMo2.addC hz1 hz2 hz3 (by omega)
            refine lv_pop hx hb dX11_core_85 rfl ?_
            refine lv_aload_n hx hb dX11_core_86 rfl (lv_at hl 0 rfl) ?_
            refine z_get (k := 13) (j := 0) hM hI hMo3.k rfl rfl hinX11 rfl (by decide) (by decide +kernel) (fun _ h9 => h9) dX11_core_87 (fun v9 hv9 => ?_)
            obtain ⟨hg9, i8, rfl, hr9⟩ := hv9
            obtain rfl : lc = i8 := Value.ref.inj (hMo3.gc.symm.trans hg9.symm)
            refine va_csFi (va_runF (As := []) (rest := []) (hK.1 1 _ rfl).2 ⟨hx, hb, hml, hown, hts⟩ (c_Jx4a65c_size_8abf5 l D tc z0 _ κ3 g3 _ lc 1 e2 25 11 (nC + 1) (mC + 1) (va_up cf nC q) rfl hMo3.LC) (va_cwF 0 hts gX11_core_Jx4a65c_size_8abf5_f46Jx4a65c rfl rfl rfl (hE.2.2.1 (RJx4a65c, ⟨"java/util/List", "size", "()I"⟩, yJx4a65c_size_8abf5) (by decide +kernel)) (by decide +kernel) ⟨Nat.le_of_ble_eq_true rfl, Nat.le_of_ble_eq_true rfl⟩) (z_preV (Xc := []) hK hE hI [] rfl rfl (z_recv hK hI hMo3.LC.1 rfl rfl)) rfl rfl hl.1 rfl (lv_room (Nat.le_of_ble_eq_true rfl)) dX11_core_90 ⟨Nat.le_of_ble_eq_true rfl, Nat.le_of_ble_eq_true rfl⟩) (fun v8 hw8 => ?_)
            obtain rfl := hw8
            refine lv_iconst (v := 1) hx hb dX11_core_95 (by decide) ?_
            refine lv_isub hx hb dX11_core_96 ?_
            rw [nI_pred]
            exact W.iret (v := nI nC) hx hb hr (fun t ht hW => ⟨⟨_, (L3, κ3, g3), rfl, Or.inr ⟨i9, hi9, hp9, hkd, hlt9, rfl, e2, q, hMo3, (hz2 q (by rw [hq2]; decide)).trans hq2, (hz3 q 3 (by rw [hq2]; decide) (fun h => absurd (hq2.symm.trans (h ▸ hMo2.LC.1)) (by decide)) (by rw [hq2]; decide)).trans (hv2 3), (hz3 q 15 (by rw [hq2]; decide) (fun h => absurd (hq2.symm.trans (h ▸ hMo2.LC.1)) (by decide)) (by rw [hq2]; decide)).trans (hv2 15), (hz3 p0 12 (by rw [hMo2.k]; decide) (fun h => absurd (hMo2.k.symm.trans (h ▸ hMo2.LC.1)) (by decide)) (by rw [hMo2.k]; decide)).trans ((hx2.2 p0 12 (by rw [hMo.k]; decide)).trans (zup_self _ _ _ _)), fun a h => (hz2 a (by rw [hx2.1 a h]; exact h)).trans (hx2.1 a h), (fun b j h1 h2 h3 h4 => (hz3 b j (by rw [hx2.1 b h1]; exact h1) h2 (by rw [hx2.1 b h1]; exact h3)).trans ((hx2.2 b j h1).trans (zup_ne (Classical.not_and_iff_not_or_not.mp h4)))), hfr9⟩, z_endG hK hI ht hW⟩, z_F hI ht⟩) (z_locs hI) dX11_core_97
          · refine lv_iconst (v := 1) hx hb dX11_core_72 (by decide) ?_
            refine lv_goto (tgt := 77) hx hb dX11_core_73 (by decide) ?_
            refine z_cvG (sel := fun u : Int32 × zS => u.2) (rxf := fun u : Int32 × zS => [(q, .inr (11, [.int (nI i9), .int u.1, .int 1, .int 108, .int 97, .int 45, .int 0, .int 0, .int 0, .int 0, .int 400, .int 0, .int 0, .int 0, .int 20, .int 0, .int 0, .int 0, .int 0]))]) (Xc := [(q, .inr (11, [.int 0, .int 0, .int 0, .int 0, .int 0, .int 0, .int 0, .int 0, .int 0, .int 0, .int 0, .int 0, .int 0, .int 0, .int 0, .int 0, .int 0, .int 0, .int 0]))]) (wr := []) [0] [] rfl rfl rfl rfl (by decide) hI (va_runI (As := [.int (nI i9), .int 1]) (rest := [.ref q, .ref lc]) ⟨hx, hb, hml, hown, hts⟩ (c_X9_init l D tc z0 _ κ (zup g p0 12 (.int 0)) _ q i9 1 (by first | exact Or.inl rfl | exact Or.inr rfl)) (cwI 2 hts gX11_core_X9_init rfl rfl rfl (hts (.initialized RX9) (by decide +kernel)) (hts (.methodLink RX11 84 yX9_init) (by decide +kernel)) (hts (.instanceMethod yX9_init) (by decide +kernel)) rfl (by decide +kernel) ⟨Nat.le_of_ble_eq_true rfl, Nat.le_of_ble_eq_true rfl⟩) (z_pre (Xc := [(q, .inr (11, [.int 0, .int 0, .int 0, .int 0, .int 0, .int 0, .int 0, .int 0, .int 0, .int 0, .int 0, .int 0, .int 0, .int 0, .int 0, .int 0, .int 0, .int 0, .int 0]))]) hK hE hI [0] rfl rfl) rfl rfl hl.1 rfl (lv_room (Nat.le_of_ble_eq_true rfl)) dX11_core_77 ⟨Nat.le_of_ble_eq_true rfl, Nat.le_of_ble_eq_true rfl⟩) (fun u H locs hw hI => ?_)
            obtain ⟨m9, u⟩ := u
            dsimp only at hw hI
            subst hw
            have hI : zI D tc _ s.heap [(q, .inr (11, [.int (nI i9), .int m9, .int 1, .int 108, .int 97, .int 45, .int 0, .int 0, .int 0, .int 0, .int 400, .int 0, .int 0, .int 0, .int 20, .int 0, .int 0, .int 0, .int 0]))] L κ (zup g p0 12 (.int 0)) _ _ := hI
            obtain ⟨L2, κ2, g2, hx2, hq2, hv2, hI⟩ := z_poolG (k := 11) (fun j => ([.int (nI i9), .int m9, .int 1, .int 108, .int 97, .int 45, .int 0, .int 0, .int 0, .int 0, .int 400, .int 0, .int 0, .int 0, .int 20, .int 0, .int 0, .int 0, .int 0] : List Value).getD j .null) hI (by decide) (fun κ9 g9 hκ9 hκ8 hg9 => zc_O rfl (zvs_cons ⟨i9, hi9, rfl⟩ rfl (zvs_cons ⟨_, rfl⟩ rfl (zvs_cons (by first | exact Or.inl rfl | exact Or.inr rfl) rfl (zvs_cons ⟨(hg9 3).symm, _, rfl, by decide⟩ rfl (zvs_cons ⟨_, rfl, by decide⟩ rfl (zvs_cons ⟨_, rfl, by decide⟩ rfl (zvs_cons ⟨_, rfl⟩ rfl (zvs_cons ⟨_, rfl⟩ rfl (zvs_cons ⟨_, rfl⟩ rfl (zvs_cons ⟨_, rfl⟩ rfl (zvs_cons ⟨_, rfl⟩ rfl (zvs_cons ⟨_, rfl⟩ rfl (zvs_cons ⟨_, rfl⟩ rfl (zvs_cons ⟨_, rfl⟩ rfl (zvs_cons ⟨_, rfl⟩ rfl (zvs_cons ⟨(hg9 15).symm, Or.inl rfl⟩ rfl (zvs_cons (by first | exact Or.inl rfl | exact Or.inr rfl) rfl (zvs_cons (by first | exact Or.inl rfl | exact Or.inr rfl) rfl (zvs_cons (by first | exact Or.inl rfl | exact Or.inr rfl) rfl zvs_nil))))))))))))))))))))
            have hMo2 := hMo.ext hx2
            refine z_iFX (sel := fun u : zS => u) (rxf := fun _ => []) (Xc := []) (wr := []) [] [] rfl rfl rfl rfl (by decide) hI (va_runF (As := [.ref q]) (rest := []) (hK.1 1 _ rfl).2 ⟨hx, hb, hml, hown, hts⟩ (c_Jx4a65c_add_9ea2d l D tc z0 _ κ2 g2 _ lc 1 eC 25 11 nC mC cf rfl hMo2.LC rfl rfl (by decide) (by decide) (by decide) 11 _ q hq2 (by omega) (by decide) (by decide) RX9 TX9 19 rfl rfl (by decide +kernel)) (va_cwF 1 hts gX11_core_Jx4a65c_add_9ea2d_f87Jx4a65c rfl rfl rfl (hE.2.2.1 (RJx4a65c, ⟨"java/util/List", "add", "(Ljava/lang/Object;)Z"⟩, yJx4a65c_add_9ea2d) (by decide +kernel)) (by decide +kernel) ⟨Nat.le_of_ble_eq_true rfl, Nat.le_of_ble_eq_true rfl⟩) (z_preV (Xc := []) hK hE hI [] rfl rfl (z_recv hK hI hMo2.LC.1 rfl rfl)) rfl rfl hl.1 rfl (lv_room (Nat.le_of_ble_eq_true rfl)) dX11_core_80 ⟨Nat.le_of_ble_eq_true rfl, Nat.le_of_ble_eq_true rfl⟩) (fun r9 u H locs hw hI => ?_)
            obtain ⟨rfl, e2, hz1, hz2, hz3⟩ := hw
            obtain ⟨L3, κ3, g3⟩ := u
            dsimp only at hz1 hz2 hz3 hI
            have hMo3 := hMo2.addC hz1 hz2 hz3 (by omega)
            refine lv_pop hx hb dX11_core_85 rfl ?_
            refine lv_aload_n hx hb dX11_core_86 rfl (lv_at hl 0 rfl) ?_
            refine z_get (k := 13) (j := 0) hM hI hMo3.k rfl rfl hinX11 rfl (by decide) (by decide +kernel) (fun _ h9 => h9) dX11_core_87 (fun v9 hv9 => ?_)
            obtain ⟨hg9, i8, rfl, hr9⟩ := hv9
            obtain rfl : lc = i8 := Value.ref.inj (hMo3.gc.symm.trans hg9.symm)
            refine va_csFi (va_runF (As := []) (rest := []) (hK.1 1 _ rfl).2 ⟨hx, hb, hml, hown, hts⟩ (c_Jx4a65c_size_8abf5 l D tc z0 _ κ3 g3 _ lc 1 e2 25 11 (nC + 1) (mC + 1) (va_up cf nC q) rfl hMo3.LC) (va_cwF 0 hts gX11_core_Jx4a65c_size_8abf5_f46Jx4a65c rfl rfl rfl (hE.2.2.1 (RJx4a65c, ⟨"java/util/List", "size", "()I"⟩, yJx4a65c_size_8abf5) (by decide +kernel)) (by decide +kernel) ⟨Nat.le_of_ble_eq_true rfl, Nat.le_of_ble_eq_true rfl⟩) (z_preV (Xc := []) hK hE hI [] rfl rfl (z_recv hK hI hMo3.LC.1 rfl rfl)) rfl rfl hl.1 rfl (lv_room (Nat.le_of_ble_eq_true rfl)) dX11_core_90 ⟨Nat.le_of_ble_eq_true rfl, Nat.le_of_ble_eq_true rfl⟩) (fun v8 hw8 => ?_)
            obtain rfl := hw8
            refine lv_iconst (v := 1) hx hb dX11_core_95 (by decide) ?_
            refine lv_isub hx hb dX11_core_96 ?_
            rw [nI_pred]
            exact W.iret (v := nI nC) hx hb hr (fun t ht hW => ⟨⟨_, (L3, κ3, g3), rfl, Or.inr ⟨i9, hi9, hp9, hkd, hlt9, rfl, e2, q, hMo3, (hz2 q (by rw [hq2]; decide)).trans hq2, (hz3 q 3 (by rw [hq2]; decide) (fun h => absurd (hq2.symm.trans (h ▸ hMo2.LC.1)) (by decide)) (by rw [hq2]; decide)).trans (hv2 3), (hz3 q 15 (by rw [hq2]; decide) (fun h => absurd (hq2.symm.trans (h ▸ hMo2.LC.1)) (by decide)) (by rw [hq2]; decide)).trans (hv2 15), (hz3 p0 12 (by rw [hMo2.k]; decide) (fun h => absurd (hMo2.k.symm.trans (h ▸ hMo2.LC.1)) (by decide)) (by rw [hMo2.k]; decide)).trans ((hx2.2 p0 12 (by rw [hMo.k]; decide)).trans (zup_self _ _ _ _)), fun a h => (hz2 a (by rw [hx2.1 a h]; exact h)).trans (hx2.1 a h), (fun b j h1 h2 h3 h4 => (hz3 b j (by rw [hx2.1 b h1]; exact h1) h2 (by rw [hx2.1 b h1]; exact h3)).trans ((hx2.2 b j h1).trans (zup_ne (Classical.not_and_iff_not_or_not.mp h4)))), hfr9⟩, z_endG hK hI ht hW⟩, z_F hI ht⟩) (z_locs hI) dX11_core_97
        · skip
          refine lv_iconst (v := 3) hx hb dX11_core_44 (by decide) ?_
          refine lv_goto (tgt := 49) hx hb dX11_core_45 (by decide) ?_
          refine z_ciX (Xc := []) (wr := []) (rx := []) [] [] rfl rfl rfl rfl (by decide) hI (va_runV (As := [.int 3]) (rest := []) ⟨hx, hb, hml, hown, hts⟩ (c_X11_fails l D tc z0 _ κ g _ p0 hk0 3) (cwV 1 hts gX11_core_X11_fails rfl rfl rfl (by decide +kernel) ⟨Nat.le_of_ble_eq_true rfl, Nat.le_of_ble_eq_true rfl⟩) (z_preV (Xc := []) hK hE hI [] rfl rfl (z_recv hK hI hk0 rfl rfl)) rfl rfl hl.1 rfl (lv_room (Nat.le_of_ble_eq_true rfl)) dX11_core_49 ⟨(Nat.le_of_ble_eq_true rfl), (Nat.le_of_ble_eq_true rfl)⟩) (fun v39 u H locs hw40 hI => ?_)
          obtain ⟨hw40, rfl⟩ := hw40
          have hI : zI D tc _ s.heap [] L κ (zup g p0 12 (.int 3)) _ _ := hI
          have hMo := hMo.upP (j := 12) (v := .int 3) (by decide)
          obtain rfl : v39 = 1 := hw40.trans (by decide)
          refine lv_if_eq (tgt := 57) hx hb dX11_core_52 (by decide) (fun h9 => by first | exact absurd h9 (by decide) | exact absurd (by decide) h9) (fun _ => ?_)
          refine lv_iconst (v := 0) hx hb dX11_core_55 (by decide) ?_
          refine W.widen (k := 2) (n := 29) (Nat.le_of_ble_eq_true rfl) (Nat.le_of_ble_eq_true rfl) ?_
          exact W.iret (v := 0) hx hb hr (fun t ht hW => ⟨⟨_, (L, κ, (zup g p0 12 (.int 3))), rfl, (Or.inl ⟨_, Or.inr (Or.inr ⟨rfl, Classical.not_not.mp (fun h => c4 (hw2.mpr h)), (by first | exact Or.inl (by assumption) | exact Or.inr (by assumption)), (nI_eq (by omega) (by decide)).mp c31⟩), rfl, rfl⟩), z_end hK hI ht hW⟩, z_F hI ht⟩) (z_locs hI) dX11_core_56
      · skip
        refine lv_iconst (v := 2) hx hb dX11_core_26 (by decide) ?_
        refine lv_goto (tgt := 49) hx hb dX11_core_27 (by decide) ?_
        refine z_ciX (Xc := []) (wr := []) (rx := []) [] [] rfl rfl rfl rfl (by decide) hI (va_runV (As := [.int 2]) (rest := []) ⟨hx, hb, hml, hown, hts⟩ (c_X11_fails l D tc z0 _ κ g _ p0 hk0 2) (cwV 1 hts gX11_core_X11_fails rfl rfl rfl (by decide +kernel) ⟨Nat.le_of_ble_eq_true rfl, Nat.le_of_ble_eq_true rfl⟩) (z_preV (Xc := []) hK hE hI [] rfl rfl (z_recv hK hI hk0 rfl rfl)) rfl rfl hl.1 rfl (lv_room (Nat.le_of_ble_eq_true rfl)) dX11_core_49 ⟨(Nat.le_of_ble_eq_true rfl), (Nat.le_of_ble_eq_true rfl)⟩) (fun v41 u H locs hw42 hI => ?_)
        obtain ⟨hw42, rfl⟩ := hw42
        have hI : zI D tc _ s.heap [] L κ (zup g p0 12 (.int 2)) _ _ := hI
        have hMo := hMo.upP (j := 12) (v := .int 2) (by decide)
        obtain rfl : v41 = 1 := hw42.trans (by decide)
        refine lv_if_eq (tgt := 57) hx hb dX11_core_52 (by decide) (fun h9 => by first | exact absurd h9 (by decide) | exact absurd (by decide) h9) (fun _ => ?_)
        refine lv_iconst (v := 0) hx hb dX11_core_55 (by decide) ?_
        refine W.widen (k := 2) (n := 29) (Nat.le_of_ble_eq_true rfl) (Nat.le_of_ble_eq_true rfl) ?_
        exact W.iret (v := 0) hx hb hr (fun t ht hW => ⟨⟨_, (L, κ, (zup g p0 12 (.int 2))), rfl, (Or.inl ⟨_, Or.inr (Or.inl ⟨rfl, Classical.not_not.mp (fun h => c4 (hw2.mpr h)), c5, c23⟩), rfl, rfl⟩), z_end hK hI ht hW⟩, z_F hI ht⟩) (z_locs hI) dX11_core_56
  · skip
    refine lv_iconst (v := 1) hx hb dX11_core_10 (by decide) ?_
    refine lv_goto (tgt := 49) hx hb dX11_core_11 (by decide) ?_
    refine z_ciX (Xc := []) (wr := []) (rx := []) [] [] rfl rfl rfl rfl (by decide) hI (va_runV (As := [.int 1]) (rest := []) ⟨hx, hb, hml, hown, hts⟩ (c_X11_fails l D tc z0 _ κ g _ p0 hk0 1) (cwV 1 hts gX11_core_X11_fails rfl rfl rfl (by decide +kernel) ⟨Nat.le_of_ble_eq_true rfl, Nat.le_of_ble_eq_true rfl⟩) (z_preV (Xc := []) hK hE hI [] rfl rfl (z_recv hK hI hk0 rfl rfl)) rfl rfl hl.1 rfl (lv_room (Nat.le_of_ble_eq_true rfl)) dX11_core_49 ⟨(Nat.le_of_ble_eq_true rfl), (Nat.le_of_ble_eq_true rfl)⟩) (fun v43 u H locs hw44 hI => ?_)
    obtain ⟨hw44, rfl⟩ := hw44
    have hI : zI D tc _ s.heap [] L κ (zup g p0 12 (.int 1)) _ _ := hI
    have hMo := hMo.upP (j := 12) (v := .int 1) (by decide)
    obtain rfl : v43 = 1 := hw44.trans (by decide)
    refine lv_if_eq (tgt := 57) hx hb dX11_core_52 (by decide) (fun h9 => by first | exact absurd h9 (by decide) | exact absurd (by decide) h9) (fun _ => ?_)
    refine lv_iconst (v := 0) hx hb dX11_core_55 (by decide) ?_
    refine W.widen (k := 2) (n := 29) (Nat.le_of_ble_eq_true rfl) (Nat.le_of_ble_eq_true rfl) ?_
    exact W.iret (v := 0) hx hb hr (fun t ht hW => ⟨⟨_, (L, κ, (zup g p0 12 (.int 1))), rfl, (Or.inl ⟨_, Or.inl ⟨rfl, hw2.mp c4⟩, rfl, rfl⟩), z_end hK hI ht hW⟩, z_F hI ht⟩) (z_locs hI) dX11_core_56

set_option maxHeartbeats 4000000 in
set_option maxRecDepth 100000 in
theorem c_X11_thread (l : Launch) (D : va_G) (tc : Nat → ClassId) (z0 : Nat) (L : List Nat) (κ : Nat → Nat) (g : Nat → Nat → Value) (sz : Nat) (p0 : Nat) (hk0 : κ p0 = 13) (p1 : Int32) (p2 : Int32) (p3 : Int32) (lc eC nC : Nat) (mC : Int32) (cf : Nat → Nat) (lt eT nT : Nat) (mT : Int32) (tf : Nat → Nat) (hMo : zMo κ g z0 p0 lc eC nC mC cf lt eT nT mT tf) : Met l yX11_thread wsX11_thread ({ frames := 5, cells := 2, slots := 14, locals := 109 }) (zPc D tc z0 [.ref p0, .int p1, .int p2, .int p3] [] (L, κ, g) sz) (va_Qi (fun (r : Int32) (u : zS) => (∃ v : Int32, ((v = 1 ∧ ∀ i, i < nC → p1 ≠ nI i) ∨ (v = 2 ∧ (∃ i, i < nC ∧ p1 = nI i) ∧ ¬ ((1 ≤ p2 ∧ p2 ≤ 99999) ∧ (0 ≤ p3 ∧ p3 ≤ 9))) ∨ (v = 3 ∧ (∃ i, i < nC ∧ p1 = nI i) ∧ ((1 ≤ p2 ∧ p2 ≤ 99999) ∧ (0 ≤ p3 ∧ p3 ≤ 9)) ∧ nT = 8)) ∧ r = 0 ∧ u = (L, κ, zup g p0 12 (.int v))) ∨ (∃ i, i < nC ∧ p1 = nI i ∧ ((1 ≤ p2 ∧ p2 ≤ 99999) ∧ (0 ≤ p3 ∧ p3 ≤ 9)) ∧ nT < 8 ∧ r = nI nT ∧ ∃ e2 q, zMo u.2.1 u.2.2 z0 p0 lc eC nC mC cf lt e2 (nT + 1) (mT + 1) (va_up tf nT q) ∧ u.2.1 q = 12 ∧ u.2.2 q 1 = .int (nI i) ∧ u.2.2 p0 12 = .int 0 ∧ (∀ a, κ a < 99 → u.2.1 a = κ a) ∧ (∀ b j, κ b < 99 → b ≠ lt → κ b ≠ 26 → ¬ (b = p0 ∧ j = 12) → u.2.2 b j = g b j) ∧ ∀ b, κ b < 99 → b ≠ q)) (fun (u : zS) (t : State) => zB D tc (zA [] L sz) [] u t) (zA [] L sz)) 2 14 (zA [] L sz) := by
  refine Met.ofW (cc := cX11_thread) (maxL := 4) (ret := (some .int)) (by decide) rfl ?_
  intro p e9 s m args below meth c s₁ B hml hv
  obtain ⟨rfl, rfl, hK, hE, hI⟩ := hv.opn
  have hx := B.exec
  have hb := B.bytes
  have hr := B.returns
  have hts := atoms_spec (ws := wsX11_thread) B.pre
  have hown : s.vm.findClass RX11 = some m.cls := findClass_of_methodNamed B.named
  have hlocks := B.notSynchronized
  have hM : zM p s m c cX11_thread _ wsX11_thread RX11 D tc := ⟨hx, hb, hts, hown, hK⟩
  have hinX11 : ∀ w ∈ wsX110, w ∈ wsX11_thread := by decide +kernel
  have hinX10 : ∀ w ∈ wsX100, w ∈ wsX11_thread := by decide +kernel
  have hnC := hMo.bC
  have hnT := hMo.bT
  have hl := lv_entry ([.ref p0, .int p1, .int p2, .int p3]) (n := 4) (Nat.le_of_ble_eq_true rfl)
  rw [lg_entry_eq]
  generalize (lg_sl ([.ref p0, .int p1, .int p2, .int p3]) ++ List.replicate (4 - (lg_sl ([.ref p0, .int p1, .int p2, .int p3])).length) Slot.unset).toArray = ls at hl ⊢
  have hl : lv_has ls 4 [(0, .ref p0), (1, .int p1), (2, .int p2), (3, .int p3)] := hl
  refine lv_aload_n hx hb dX11_thread_0 rfl (lv_at hl 0 rfl) ?_
  refine lv_aload_n hx hb dX11_thread_1 rfl (lv_at hl 0 rfl) ?_
  refine lv_iload_n hx hb dX11_thread_2 rfl (lv_at hl 1 rfl) ?_
  refine vp_callSi (W.runV (As := [.int p1]) (rest := [.ref p0]) ⟨hx, hb, hml, hown, hts⟩ (c_X11_isCore l D tc z0 _ κ g _ p0 hk0 p1 lc eC nC mC cf lt eT nT mT tf hMo) (cwV 1 hts gX11_thread_X11_isCore rfl rfl rfl (by decide +kernel) ⟨Nat.le_of_ble_eq_true rfl, Nat.le_of_ble_eq_true rfl⟩) (z_preV (Xc := []) hK hE hI [] rfl rfl (z_recv hK hI hk0 rfl rfl)) rfl rfl hl.1 rfl (lv_room (Nat.le_of_ble_eq_true rfl)) dX11_thread_3 ⟨(Nat.le_of_ble_eq_true rfl), (Nat.le_of_ble_eq_true rfl)⟩) (fun v1 hw2 => ?_)
  rcases hw2 with ⟨rfl, i3, hi4, hp5⟩ | ⟨rfl, hno6⟩
  · skip
    rw [hp5] at hl
    refine lv_if_ne (tgt := 13) hx hb dX11_thread_6 (by decide) (fun _ => ?_) (fun h9 => by first | exact absurd h9 (by decide) | exact absurd (by decide) h9)
    refine lv_iload_n hx hb dX11_thread_13 rfl (lv_at hl 2 rfl) ?_
    refine lv_iconst (v := 1) hx hb dX11_thread_14 (by decide) ?_
    refine lv_ldc (v := 99999) hx hb hown (hts (.constant RX11 94 (99999)) (by decide +kernel)) dX11_thread_15 ?_
    refine vp_callSi (W.runS (As := [.int p2, .int 1, .int 99999]) (rest := [.ref p0]) ⟨hx, hb, hml, hown, hts⟩ (c_X11_in l D tc z0 _ κ g _ p2 1 99999) (va_cwS 3 hts gX11_thread_X11_in rfl rfl rfl (by decide +kernel) ⟨Nat.le_of_ble_eq_true rfl, Nat.le_of_ble_eq_true rfl⟩) (z_pre hK hE hI [] rfl rfl) rfl rfl hl.1 rfl (lv_room (Nat.le_of_ble_eq_true rfl)) dX11_thread_17 ⟨(Nat.le_of_ble_eq_true rfl), (Nat.le_of_ble_eq_true rfl)⟩) (fun v7 hw8 => ?_)
    obtain ⟨hw8, hz9⟩ := hw8
    refine lv_if_eq (tgt := 33) hx hb dX11_thread_20 (by decide) (fun c10 => ?_) (fun c10 => ?_)
    · skip
      refine lv_iconst (v := 2) hx hb dX11_thread_33 (by decide) ?_
      refine lv_goto (tgt := 56) hx hb dX11_thread_34 (by decide) ?_
      refine z_ciX (Xc := []) (wr := []) (rx := []) [] [] rfl rfl rfl rfl (by decide) hI (va_runV (As := [.int 2]) (rest := []) ⟨hx, hb, hml, hown, hts⟩ (c_X11_fails l D tc z0 _ κ g _ p0 hk0 2) (cwV 1 hts gX11_thread_X11_fails rfl rfl rfl (by decide +kernel) ⟨Nat.le_of_ble_eq_true rfl, Nat.le_of_ble_eq_true rfl⟩) (z_preV (Xc := []) hK hE hI [] rfl rfl (z_recv hK hI hk0 rfl rfl)) rfl rfl hl.1 rfl (lv_room (Nat.le_of_ble_eq_true rfl)) dX11_thread_56 ⟨(Nat.le_of_ble_eq_true rfl), (Nat.le_of_ble_eq_true rfl)⟩) (fun v11 u H locs hw12 hI => ?_)
      obtain ⟨hw12, rfl⟩ := hw12
      have hI : zI D tc _ s.heap [] L κ (zup g p0 12 (.int 2)) _ _ := hI
      have hMo := hMo.upP (j := 12) (v := .int 2) (by decide)
      obtain rfl : v11 = 1 := hw12.trans (by decide)
      refine lv_if_eq (tgt := 64) hx hb dX11_thread_59 (by decide) (fun h9 => by first | exact absurd h9 (by decide) | exact absurd (by decide) h9) (fun _ => ?_)
      refine lv_iconst (v := 0) hx hb dX11_thread_62 (by decide) ?_
      refine W.widen (k := 2) (n := 14) (Nat.le_of_ble_eq_true rfl) (Nat.le_of_ble_eq_true rfl) ?_
      exact W.iret (v := 0) hx hb hr (fun t ht hW => ⟨⟨_, (L, κ, (zup g p0 12 (.int 2))), rfl, (Or.inl ⟨_, Or.inr (Or.inl ⟨rfl, ⟨_, hi4, hp5⟩, (by first | exact fun h => hw8.mp c10 h.1 | exact fun h => h9.mp c9 h.2)⟩), rfl, rfl⟩), z_end hK hI ht hW⟩, z_F hI ht⟩) (z_locs hI) dX11_thread_63
    · skip
      refine lv_iload_n hx hb dX11_thread_23 rfl (lv_at hl 3 rfl) ?_
      refine lv_iconst (v := 0) hx hb dX11_thread_24 (by decide) ?_
      refine lv_bipush (v := 9) hx hb dX11_thread_25 (by decide) ?_
      refine vp_callSi (W.runS (As := [.int p3, .int 0, .int 9]) (rest := [.ref p0]) ⟨hx, hb, hml, hown, hts⟩ (c_X11_in l D tc z0 _ κ g _ p3 0 9) (va_cwS 3 hts gX11_thread_X11_in rfl rfl rfl (by decide +kernel) ⟨Nat.le_of_ble_eq_true rfl, Nat.le_of_ble_eq_true rfl⟩) (z_pre hK hE hI [] rfl rfl) rfl rfl hl.1 rfl (lv_room (Nat.le_of_ble_eq_true rfl)) dX11_thread_27 ⟨(Nat.le_of_ble_eq_true rfl), (Nat.le_of_ble_eq_true rfl)⟩) (fun v13 hw14 => ?_)
      obtain ⟨hw14, hz15⟩ := hw14
      refine lv_if_ne (tgt := 37) hx hb dX11_thread_30 (by decide) (fun c16 => ?_) (fun c16 => ?_)
      · skip
        refine lv_aload_n hx hb dX11_thread_37 rfl (lv_at hl 0 rfl) ?_
        refine z_get (k := 13) (j := 1) hM hI hk0 rfl rfl hinX11 rfl (by decide) (by decide +kernel) (fun _ h9 => h9) dX11_thread_38 (fun v17 hv18 => ?_)
        obtain ⟨hg20, i19, rfl, hr21⟩ := hv18
        obtain rfl : lt = i19 := Value.ref.inj (hMo.gt.symm.trans hg20.symm)
        refine va_csFi (va_runF (As := []) (rest := [.ref p0]) (hK.1 1 _ rfl).2 ⟨hx, hb, hml, hown, hts⟩ (c_Jx4a65c_size_8abf5 l D tc z0 _ κ g _ lt 14 eT 26 12 nT mT tf rfl hMo.LT) (va_cwF 0 hts gX11_thread_Jx4a65c_size_8abf5_f46Jx4a65c rfl rfl rfl (hE.2.2.1 (RJx4a65c, ⟨"java/util/List", "size", "()I"⟩, yJx4a65c_size_8abf5) (by decide +kernel)) (by decide +kernel) ⟨Nat.le_of_ble_eq_true rfl, Nat.le_of_ble_eq_true rfl⟩) (z_preV (Xc := []) hK hE hI [] rfl rfl (z_recv hK hI hMo.LT.1 rfl rfl)) rfl rfl hl.1 rfl (lv_room (Nat.le_of_ble_eq_true rfl)) dX11_thread_41 ⟨(Nat.le_of_ble_eq_true rfl), (Nat.le_of_ble_eq_true rfl)⟩) (fun v22 hw23 => ?_)
        obtain rfl := hw23
        refine lv_bipush (v := 8) hx hb dX11_thread_46 (by decide) ?_
        refine lv_icmp_ne (tgt := 55) hx hb dX11_thread_48 (by decide) (fun c24 => ?_) (fun c24 => ?_)
        · skip
          refine lv_iconst (v := 0) hx hb dX11_thread_55 (by decide) ?_
          refine z_ciX (Xc := []) (wr := []) (rx := []) [] [] rfl rfl rfl rfl (by decide) hI (va_runV (As := [.int 0]) (rest := []) ⟨hx, hb, hml, hown, hts⟩ (c_X11_fails l D tc z0 _ κ g _ p0 hk0 0) (cwV 1 hts gX11_thread_X11_fails rfl rfl rfl (by decide +kernel) ⟨Nat.le_of_ble_eq_true rfl, Nat.le_of_ble_eq_true rfl⟩) (z_preV (Xc := []) hK hE hI [] rfl rfl (z_recv hK hI hk0 rfl rfl)) rfl rfl hl.1 rfl (lv_room (Nat.le_of_ble_eq_true rfl)) dX11_thread_56 ⟨(Nat.le_of_ble_eq_true rfl), (Nat.le_of_ble_eq_true rfl)⟩) (fun v25 u H locs hw26 hI => ?_)
          obtain ⟨hw26, rfl⟩ := hw26
          have hI : zI D tc _ s.heap [] L κ (zup g p0 12 (.int 0)) _ _ := hI
          have hMo := hMo.upP (j := 12) (v := .int 0) (by decide)
          obtain rfl : v25 = 0 := hw26.trans (by decide)
          refine lv_if_eq (tgt := 64) hx hb dX11_thread_59 (by decide) (fun _ => ?_) (fun h9 => by first | exact absurd h9 (by decide) | exact absurd (by decide) h9)
          refine lv_aload_n hx hb dX11_thread_64 rfl (lv_at hl 0 rfl) ?_
          refine z_get (k := 13) (j := 1) hM hI hk0 rfl rfl hinX11 rfl (by decide) (by decide +kernel) (fun _ h9 => h9) dX11_thread_65 (fun v27 hv28 => ?_)
          obtain ⟨hg30, i29, rfl, hr31⟩ := hv28
          obtain rfl : lt = i29 := Value.ref.inj (hMo.gt.symm.trans hg30.symm)
          refine z_new (ci := 12) (fs := [.int 0, .int 0, .int 0, .int 0]) (C := RX10) (T := TX10) (N := 4) hM hI hinX10 tyX10 tyX10_ok (by decide +kernel) (by decide +kernel) (by decide +kernel) rfl (by decide +kernel) (Nat.le_of_ble_eq_true rfl) (Nat.le_of_ble_eq_true rfl) dX11_thread_68 (fun q H hI => ?_)
          have hI : zI D tc _ s.heap [(q, .inr (12, [.int 0, .int 0, .int 0, .int 0]))] L κ (zup g p0 12 (.int 0)) _ _ := hI
          have hfr9 : ∀ b9 : Nat, κ b9 < 99 → b9 ≠ q := z_fresh hI
          refine lv_dup hx hb dX11_thread_71 rfl ?_
          have hlt9 : nT < 8 := by
            rcases Nat.lt_or_eq_of_le hnT with h | h
            · exact h
            · exact absurd (by rw [h]; rfl) c24
          have hrg : (1 ≤ p2 ∧ p2 ≤ 99999) ∧ (0 ≤ p3 ∧ p3 ≤ 9) := ⟨Classical.not_not.mp (fun h => c10 (hw8.mpr h)), Classical.not_not.mp (fun h => c16 (hw14.mpr h))⟩
          refine lv_iload_n hx hb dX11_thread_72 rfl (lv_at hl 1 rfl) ?_
          refine lv_iload_n hx hb dX11_thread_73 rfl (lv_at hl 2 rfl) ?_
          refine lv_iload_n hx hb dX11_thread_74 rfl (lv_at hl 3 rfl) ?_
          refine z_cvX (rx := [(q, .inr (12, [.int p3, .int ((nI i3)), .int p2, .int 0]))]) (Xc := [(q, .inr (12, [.int 0, .int 0, .int 0, .int 0]))]) (wr := []) [0] [] rfl rfl rfl rfl (by decide) hI (va_runI (As := [.int ((nI i3)), .int p2, .int p3]) (rest := [.ref q, .ref lt]) ⟨hx, hb, hml, hown, hts⟩ (c_X10_init l D tc z0 _ κ (zup g p0 12 (.int 0)) _ q ((nI i3)) p2 p3) (cwI 3 hts gX11_thread_X10_init rfl rfl rfl (hts (.initialized RX10) (by decide +kernel)) (hts (.methodLink RX11 95 yX10_init) (by decide +kernel)) (hts (.instanceMethod yX10_init) (by decide +kernel)) rfl (by decide +kernel) ⟨Nat.le_of_ble_eq_true rfl, Nat.le_of_ble_eq_true rfl⟩) (z_pre (Xc := [(q, .inr (12, [.int 0, .int 0, .int 0, .int 0]))]) hK hE hI [0] rfl rfl) rfl rfl hl.1 rfl (lv_room (Nat.le_of_ble_eq_true rfl)) dX11_thread_75 ⟨Nat.le_of_ble_eq_true rfl, Nat.le_of_ble_eq_true rfl⟩) (fun u H locs hw hI => ?_)
          obtain rfl := hw
          have hI : zI D tc _ s.heap [(q, .inr (12, [.int p3, .int ((nI i3)), .int p2, .int 0]))] L κ (zup g p0 12 (.int 0)) _ _ := hI
          obtain ⟨L2, κ2, g2, hx2, hq2, hv2, hI⟩ := z_poolG (k := 12) (fun j => ([.int p3, .int ((nI i3)), .int p2, .int 0] : List Value).getD j .null) hI (by decide) (fun κ9 g9 hκ9 hκ8 hg9 => zc_O rfl (zvs_cons ⟨_, rfl⟩ rfl (zvs_cons ⟨(hg9 1).symm, _, rfl⟩ rfl (zvs_cons ⟨_, rfl⟩ rfl (zvs_cons ⟨_, rfl⟩ rfl zvs_nil)))))
          have hMo2 := hMo.ext hx2
          refine z_iFX (sel := fun u : zS => u) (rxf := fun _ => []) (Xc := []) (wr := []) [] [] rfl rfl rfl rfl (by decide) hI (va_runF (As := [.ref q]) (rest := []) (hK.1 1 _ rfl).2 ⟨hx, hb, hml, hown, hts⟩ (c_Jx4a65c_add_9ea2d l D tc z0 _ κ2 g2 _ lt 14 eT 26 12 nT mT tf rfl hMo2.LT rfl rfl (by decide) (by decide) (by decide) 12 _ q hq2 (by omega) (by decide) (by decide) RX10 TX10 4 rfl rfl (by decide +kernel)) (va_cwF 1 hts gX11_thread_Jx4a65c_add_9ea2d_f87Jx4a65c rfl rfl rfl (hE.2.2.1 (RJx4a65c, ⟨"java/util/List", "add", "(Ljava/lang/Object;)Z"⟩, yJx4a65c_add_9ea2d) (by decide +kernel)) (by decide +kernel) ⟨Nat.le_of_ble_eq_true rfl, Nat.le_of_ble_eq_true rfl⟩) (z_preV (Xc := []) hK hE hI [] rfl rfl (z_recv hK hI hMo2.LT.1 rfl rfl)) rfl rfl hl.1 rfl (lv_room (Nat.le_of_ble_eq_true rfl)) dX11_thread_78 ⟨Nat.le_of_ble_eq_true rfl, Nat.le_of_ble_eq_true rfl⟩) (fun r9 u H locs hw hI => ?_)
          obtain ⟨rfl, e2, hz1, hz2, hz3⟩ := hw
          obtain ⟨L3, κ3, g3⟩ := u
          dsimp only at hz1 hz2 hz3 hI
          have hMo3 := hMo2.addT hz1 hz2 hz3 (by omega)
          refine lv_pop hx hb dX11_thread_83 rfl ?_
          refine lv_aload_n hx hb dX11_thread_84 rfl (lv_at hl 0 rfl) ?_
          refine z_get (k := 13) (j := 1) hM hI hMo3.k rfl rfl hinX11 rfl (by decide) (by decide +kernel) (fun _ h9 => h9) dX11_thread_85 (fun v9 hv9 => ?_)
          obtain ⟨hg9, i8, rfl, hr9⟩ := hv9
          obtain rfl : lt = i8 := Value.ref.inj (hMo3.gt.symm.trans hg9.symm)
          refine va_csFi (va_runF (As := []) (rest := []) (hK.1 1 _ rfl).2 ⟨hx, hb, hml, hown, hts⟩ (c_Jx4a65c_size_8abf5 l D tc z0 _ κ3 g3 _ lt 14 e2 26 12 (nT + 1) (mT + 1) (va_up tf nT q) rfl hMo3.LT) (va_cwF 0 hts gX11_thread_Jx4a65c_size_8abf5_f46Jx4a65c rfl rfl rfl (hE.2.2.1 (RJx4a65c, ⟨"java/util/List", "size", "()I"⟩, yJx4a65c_size_8abf5) (by decide +kernel)) (by decide +kernel) ⟨Nat.le_of_ble_eq_true rfl, Nat.le_of_ble_eq_true rfl⟩) (z_preV (Xc := []) hK hE hI [] rfl rfl (z_recv hK hI hMo3.LT.1 rfl rfl)) rfl rfl hl.1 rfl (lv_room (Nat.le_of_ble_eq_true rfl)) dX11_thread_88 ⟨Nat.le_of_ble_eq_true rfl, Nat.le_of_ble_eq_true rfl⟩) (fun v8 hw8 => ?_)
          obtain rfl := hw8
          refine lv_iconst (v := 1) hx hb dX11_thread_93 (by decide) ?_
          refine lv_isub hx hb dX11_thread_94 ?_
          rw [nI_pred]
          exact W.iret (v := nI nT) hx hb hr (fun t ht hW => ⟨⟨_, (L3, κ3, g3), rfl, Or.inr ⟨_, hi4, hp5, hrg, hlt9, rfl, e2, q, hMo3, (hz2 q (by rw [hq2]; decide)).trans hq2, (hz3 q 1 (by rw [hq2]; decide) (fun h => absurd (hq2.symm.trans (h ▸ hMo2.LT.1)) (by decide)) (by rw [hq2]; decide)).trans (hv2 1), (hz3 p0 12 (by rw [hMo2.k]; decide) (fun h => absurd (hMo2.k.symm.trans (h ▸ hMo2.LT.1)) (by decide)) (by rw [hMo2.k]; decide)).trans ((hx2.2 p0 12 (by rw [hMo.k]; decide)).trans (zup_self _ _ _ _)), fun a h => (hz2 a (by rw [hx2.1 a h]; exact h)).trans (hx2.1 a h), (fun b j h1 h2 h3 h4 => (hz3 b j (by rw [hx2.1 b h1]; exact h1) h2 (by rw [hx2.1 b h1]; exact h3)).trans ((hx2.2 b j h1).trans (zup_ne (Classical.not_and_iff_not_or_not.mp h4)))), hfr9⟩, z_endG hK hI ht hW⟩, z_F hI ht⟩) (z_locs hI) dX11_thread_95
        · skip
          refine lv_iconst (v := 3) hx hb dX11_thread_51 (by decide) ?_
          refine lv_goto (tgt := 56) hx hb dX11_thread_52 (by decide) ?_
          refine z_ciX (Xc := []) (wr := []) (rx := []) [] [] rfl rfl rfl rfl (by decide) hI (va_runV (As := [.int 3]) (rest := []) ⟨hx, hb, hml, hown, hts⟩ (c_X11_fails l D tc z0 _ κ g _ p0 hk0 3) (cwV 1 hts gX11_thread_X11_fails rfl rfl rfl (by decide +kernel) ⟨Nat.le_of_ble_eq_true rfl, Nat.le_of_ble_eq_true rfl⟩) (z_preV (Xc := []) hK hE hI [] rfl rfl (z_recv hK hI hk0 rfl rfl)) rfl rfl hl.1 rfl (lv_room (Nat.le_of_ble_eq_true rfl)) dX11_thread_56 ⟨(Nat.le_of_ble_eq_true rfl), (Nat.le_of_ble_eq_true rfl)⟩) (fun v32 u H locs hw33 hI => ?_)
          obtain ⟨hw33, rfl⟩ := hw33
          have hI : zI D tc _ s.heap [] L κ (zup g p0 12 (.int 3)) _ _ := hI
          have hMo := hMo.upP (j := 12) (v := .int 3) (by decide)
          obtain rfl : v32 = 1 := hw33.trans (by decide)
          refine lv_if_eq (tgt := 64) hx hb dX11_thread_59 (by decide) (fun h9 => by first | exact absurd h9 (by decide) | exact absurd (by decide) h9) (fun _ => ?_)
          refine lv_iconst (v := 0) hx hb dX11_thread_62 (by decide) ?_
          refine W.widen (k := 2) (n := 14) (Nat.le_of_ble_eq_true rfl) (Nat.le_of_ble_eq_true rfl) ?_
          exact W.iret (v := 0) hx hb hr (fun t ht hW => ⟨⟨_, (L, κ, (zup g p0 12 (.int 3))), rfl, (Or.inl ⟨_, Or.inr (Or.inr ⟨rfl, ⟨_, hi4, hp5⟩, ⟨Classical.not_not.mp (fun h => c10 (hw8.mpr h)), Classical.not_not.mp (fun h => c16 (hw14.mpr h))⟩, (nI_eq (by omega) (by decide)).mp c24⟩), rfl, rfl⟩), z_end hK hI ht hW⟩, z_F hI ht⟩) (z_locs hI) dX11_thread_63
      · skip
        refine lv_iconst (v := 2) hx hb dX11_thread_33 (by decide) ?_
        refine lv_goto (tgt := 56) hx hb dX11_thread_34 (by decide) ?_
        refine z_ciX (Xc := []) (wr := []) (rx := []) [] [] rfl rfl rfl rfl (by decide) hI (va_runV (As := [.int 2]) (rest := []) ⟨hx, hb, hml, hown, hts⟩ (c_X11_fails l D tc z0 _ κ g _ p0 hk0 2) (cwV 1 hts gX11_thread_X11_fails rfl rfl rfl (by decide +kernel) ⟨Nat.le_of_ble_eq_true rfl, Nat.le_of_ble_eq_true rfl⟩) (z_preV (Xc := []) hK hE hI [] rfl rfl (z_recv hK hI hk0 rfl rfl)) rfl rfl hl.1 rfl (lv_room (Nat.le_of_ble_eq_true rfl)) dX11_thread_56 ⟨(Nat.le_of_ble_eq_true rfl), (Nat.le_of_ble_eq_true rfl)⟩) (fun v34 u H locs hw35 hI => ?_)
        obtain ⟨hw35, rfl⟩ := hw35
        have hI : zI D tc _ s.heap [] L κ (zup g p0 12 (.int 2)) _ _ := hI
        have hMo := hMo.upP (j := 12) (v := .int 2) (by decide)
        obtain rfl : v34 = 1 := hw35.trans (by decide)
        refine lv_if_eq (tgt := 64) hx hb dX11_thread_59 (by decide) (fun h9 => by first | exact absurd h9 (by decide) | exact absurd (by decide) h9) (fun _ => ?_)
        refine lv_iconst (v := 0) hx hb dX11_thread_62 (by decide) ?_
        refine W.widen (k := 2) (n := 14) (Nat.le_of_ble_eq_true rfl) (Nat.le_of_ble_eq_true rfl) ?_
        exact W.iret (v := 0) hx hb hr (fun t ht hW => ⟨⟨_, (L, κ, (zup g p0 12 (.int 2))), rfl, (Or.inl ⟨_, Or.inr (Or.inl ⟨rfl, ⟨_, hi4, hp5⟩, (by first | exact fun h => hw8.mp c10 h.1 | exact fun h => hw14.mp c16 h.2)⟩), rfl, rfl⟩), z_end hK hI ht hW⟩, z_F hI ht⟩) (z_locs hI) dX11_thread_63
  · skip
    refine lv_if_ne (tgt := 13) hx hb dX11_thread_6 (by decide) (fun h9 => by first | exact absurd h9 (by decide) | exact absurd (by decide) h9) (fun _ => ?_)
    refine lv_iconst (v := 1) hx hb dX11_thread_9 (by decide) ?_
    refine lv_goto (tgt := 56) hx hb dX11_thread_10 (by decide) ?_
    refine z_ciX (Xc := []) (wr := []) (rx := []) [] [] rfl rfl rfl rfl (by decide) hI (va_runV (As := [.int 1]) (rest := []) ⟨hx, hb, hml, hown, hts⟩ (c_X11_fails l D tc z0 _ κ g _ p0 hk0 1) (cwV 1 hts gX11_thread_X11_fails rfl rfl rfl (by decide +kernel) ⟨Nat.le_of_ble_eq_true rfl, Nat.le_of_ble_eq_true rfl⟩) (z_preV (Xc := []) hK hE hI [] rfl rfl (z_recv hK hI hk0 rfl rfl)) rfl rfl hl.1 rfl (lv_room (Nat.le_of_ble_eq_true rfl)) dX11_thread_56 ⟨(Nat.le_of_ble_eq_true rfl), (Nat.le_of_ble_eq_true rfl)⟩) (fun v36 u H locs hw37 hI => ?_)
    obtain ⟨hw37, rfl⟩ := hw37
    have hI : zI D tc _ s.heap [] L κ (zup g p0 12 (.int 1)) _ _ := hI
    have hMo := hMo.upP (j := 12) (v := .int 1) (by decide)
    obtain rfl : v36 = 1 := hw37.trans (by decide)
    refine lv_if_eq (tgt := 64) hx hb dX11_thread_59 (by decide) (fun h9 => by first | exact absurd h9 (by decide) | exact absurd (by decide) h9) (fun _ => ?_)
    refine lv_iconst (v := 0) hx hb dX11_thread_62 (by decide) ?_
    refine W.widen (k := 2) (n := 14) (Nat.le_of_ble_eq_true rfl) (Nat.le_of_ble_eq_true rfl) ?_
    exact W.iret (v := 0) hx hb hr (fun t ht hW => ⟨⟨_, (L, κ, (zup g p0 12 (.int 1))), rfl, (Or.inl ⟨_, Or.inl ⟨rfl, hno6⟩, rfl, rfl⟩), z_end hK hI ht hW⟩, z_F hI ht⟩) (z_locs hI) dX11_thread_63

