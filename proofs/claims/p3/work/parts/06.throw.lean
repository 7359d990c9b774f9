/-- x is the number of a cell, among n, that is not null -/
def zHas (g : Nat → Nat → Value) (a n : Nat) (x : Int32) : Prop := vp_in x n ∧ ∃ b, g a x.toNatClampNeg = .ref b
theorem z_in {x : Int32} {n : Nat} (hn : n < 2 ^ 31) (h0 : ¬ x < 0) (h : ¬ nI n ≤ x) : vp_in x n := by
  obtain ⟨j, hj, rfl⟩ := nI_of h0
  exact vp_in_nI (z_lt hj h) hn
theorem z_in3 {x : Int32} (h0 : ¬ x < 0) (h : ¬ (3 : Int32) ≤ x) : vp_in x 3 := z_in (n := 3) (by decide) h0 h
theorem z_in6 {x : Int32} (h0 : ¬ x < 0) (h : ¬ (6 : Int32) ≤ x) : vp_in x 6 := z_in (n := 6) (by decide) h0 h
theorem z_in8 {x : Int32} (h0 : ¬ x < 0) (h : ¬ (8 : Int32) ≤ x) : vp_in x 8 := z_in (n := 8) (by decide) h0 h
theorem z_neg {x : Int32} {n : Nat} (h : x < 0) : ¬ vp_in x n := fun q => q (Or.inl h)
theorem z_out3 {x : Int32} (h : (3 : Int32) ≤ x) : ¬ vp_in x 3 := fun q => by
  obtain ⟨j, hj, rfl⟩ := vp_in_of q (by decide)
  have h2 : (3 : Nat) ≤ j := (nI_leI (a := 3) (by decide) (by omega)).mp h
  omega
theorem z_out6 {x : Int32} (h : (6 : Int32) ≤ x) : ¬ vp_in x 6 := fun q => by
  obtain ⟨j, hj, rfl⟩ := vp_in_of q (by decide)
  have h2 : (6 : Nat) ≤ j := (nI_leI (a := 6) (by decide) (by omega)).mp h
  omega
theorem z_out8 {x : Int32} (h : (8 : Int32) ≤ x) : ¬ vp_in x 8 := fun q => by
  obtain ⟨j, hj, rfl⟩ := vp_in_of q (by decide)
  have h2 : (8 : Nat) ≤ j := (nI_leI (a := 8) (by decide) (by omega)).mp h
  omega
theorem z_no {g : Nat → Nat → Value} {a n : Nat} {x : Int32} (h : ¬ vp_in x n) : ¬ zHas g a n x := fun q => h q.1
theorem z_nul {g : Nat → Nat → Value} {a n : Nat} {x : Int32} (h : Value.null = g a x.toNatClampNeg) : ¬ zHas g a n x := fun q => by
  obtain ⟨-, b, hb⟩ := q
  rw [← h] at hb
  cases hb
def zNo : Cond → Bool
  | .castable .. => true
  | .declares .. => true
  | .fieldLinkNest .. => true
  | .methodLinkNest .. => true
  | _ => false
theorem zNo_ot {w : Cond} (h : zNo w = true) : w.onTables = true := by
  cases w <;> first | rfl | (simp [zNo] at h; done)
theorem zNo_k {w : Cond} (h : zNo w = true) : zNk w = true := by
  cases w <;> first | rfl | (simp [zNo] at h; done)
section ZTHROW
variable {p : Program} {l : Launch} {e : Env} {R : Room} {s : State} {m : MethodId} {args : Array Value} {below : List Frame} {meth : Method} {c : Code} {H : Heap} {locs : List Loc} {cells slots mc ms : Nat} {Q : State → Prop}
variable {a : Array Value} {pc : Nat} {ls : Array Slot} {rest st0 : List Value} {D : va_G} {tc : Nat → ClassId} {A : Nat → Prop} {L : List Nat} {κ : Nat → Nat} {g : Nat → Nat → Value} {cc : ByteArray} {Ts : List Cond} {own : String} {z0 : Nat}
/-- the heap has grown behind the pool -/
theorem z_grow {X' : va_W} {L0 : List Nat} {sz : Nat} {t : State} (hK : va_K D vwCl (zTy tc) s) (hI : zI D tc (zA X' L0 sz) s.heap [] L κ g H locs) (hvm : s.vm.Alike t.vm) (hz : H.size ≤ t.heap.size) (hq : ∀ q : Nat, q < H.size → t.heap[q]? = H[q]?) : zB D tc (zA X' L0 sz) [] (L, κ, g) t ∧ va_F (zA X' L0 sz) s t := by
  obtain ⟨hA, hS, f, hP, hD, hT⟩ := hI
  refine ⟨⟨va_K.moved hvm hK, f, hP.kept (fun k q hk => hq q.1 (hP k q hk).lt), hD, hT⟩, Nat.le_trans hS.1 hz, fun q h1 h2 => (hq q (Nat.lt_of_lt_of_le h1 hS.1)).trans (hS.2.1 q h1 h2)⟩
theorem z_throw {Qc : Array Value → State → Outcome → State → Prop} {XP : String → zS → Prop} {cls text : String} {ik is ic : Nat} {L0 : List Nat} (names : List String) (hnames : ∀ n ∈ names, Bundle.fit n = true) (hM : zM p s m c cc args Ts own D tc) (hE : zE z0 (zA [] L0 s.heap.size) s) (hI : zI D tc (zA [] L0 s.heap.size) s.heap [] L κ g H locs) (hl : l.stackTraces = false) (hcls : Bundle.fit cls = true)
    (hk : Cond.classLink own ik cls ∈ Ts) (hini : Cond.initialized cls ∈ Ts) (hstr : Cond.stringRef own is text ∈ tables_1) (hg1 : ∀ w ∈ (vx_atS own ic cls names).filter goodWord, w ∈ Ts) (hg2 : ∀ w ∈ (vx_atS own ic cls names).filter (fun w => !goodWord w), zNo w = true ∧ w ∈ tables_1)
    (hgood : ∀ w ∈ Cond.classLink own ik cls :: Cond.initialized cls :: vx_atS own ic cls names, vx_ot w = true) (hsize : ls.size = c.maxLocals)
    (d0 : decode cc pc = .ok (.new ik, 3)) (d3 : decode cc (pc + 3) = .ok (.dup, 1)) (d4 : decode cc (pc + 4) = .ok (.ldc is, 2)) (d6 : decode cc (pc + 6) = .ok (.invokespecial ic, 3)) (d9 : decode cc (pc + 9) = .ok (.athrow, 1))
    (hout : ∀ (i : Nat), ∀ x ∈ c.exceptionTable.toList, covers x i = false) (hRframes : names.length + 3 < R.frames) (hRlocals : (rest.map fun v => v.category).sum + (13 * (names.length + 1) + 43) ≤ R.locals) (hRcells : cells + 1 ≤ R.cells) (hRslots : slots + 6 ≤ R.slots) (hlocks : meth.locks = false)
    (hxp : XP cls (L, κ, g)) (hc : cells + 1 ≤ mc) (hs : slots + 6 ≤ ms) :
    W p l e R s m args below meth c H locs cells slots (vx_MQ below Qc (vx_X (fun u : zS => True) (fun (E : String) (u : zS) (t : State) => XP E u ∧ zB D tc (zA [] L0 s.heap.size) [] u t) (zA [] L0 s.heap.size)) args s mc ms (zA [] L0 s.heap.size)) (F0 m pc ls rest) := by
  obtain ⟨hx, hb, hts, hown, hK⟩ := hM
  obtain ⟨sa, hsa⟩ := hE.2.1 own is text hstr
  refine vx_throwS (names := names) (sa := sa) (A := zA [] L0 s.heap.size) hx hb hl hown hcls hnames (hts _ hk) (hts _ hini) hsa ?_ hgood hE.2.2.2.2.1 hE.2.2.2.2.2.1 hI.2.1 hsize d0 d3 d4 d6 d9 (hout _) hRframes hRlocals hRcells hRslots hlocks (fun t hvm hz hq => ?_) (z_locs hI) hc hs
  · intro w hw
    by_cases gw : goodWord w = true
    · exact hts _ (hg1 w (List.mem_filter.mpr ⟨hw, gw⟩))
    · obtain ⟨h1, h2⟩ := hg2 w (List.mem_filter.mpr ⟨hw, by simp [gw]⟩)
      exact va_Nw.use (zNo_ot h1) (hE.1 w h2 (zNo_k h1))
  · obtain ⟨h1, h2⟩ := z_grow hK hI hvm hz hq
    exact ⟨(L, κ, g), trivial, ⟨hxp, h1⟩, h2⟩
theorem z_throwW {Qc : Array Value → State → Outcome → State → Prop} {XP : String → zS → Prop} {cls text : String} {ik is ic : Nat} {L0 : List Nat} (names : List String) (hnames : ∀ n ∈ names, Bundle.fit n = true) (hM : zM p s m c cc args Ts own D tc) (hE : zE z0 (zA [] L0 s.heap.size) s) (hI : zI D tc (zA [] L0 s.heap.size) s.heap [] L κ g H locs) (hl : l.stackTraces = false) (hcls : Bundle.fit cls = true)
    (hk : Cond.classLink own ik cls ∈ Ts) (hini : Cond.initialized cls ∈ Ts) (hstr : Cond.stringRef own is text ∈ tables_1) (hg1 : ∀ w ∈ (vx_atS own ic cls names).filter goodWord, w ∈ Ts) (hg2 : ∀ w ∈ (vx_atS own ic cls names).filter (fun w => !goodWord w), zNo w = true ∧ w ∈ tables_1)
    (hgood : ∀ w ∈ Cond.classLink own ik cls :: Cond.initialized cls :: vx_atS own ic cls names, vx_ot w = true) (hsize : ls.size = c.maxLocals)
    (d0 : decode cc pc = .ok (.new ik, 3)) (d3 : decode cc (pc + 3) = .ok (.dup, 1)) (d4 : decode cc (pc + 4) = .ok (.ldc_w is, 3)) (d6 : decode cc (pc + 7) = .ok (.invokespecial ic, 3)) (d9 : decode cc (pc + 10) = .ok (.athrow, 1))
    (hout : ∀ (i : Nat), ∀ x ∈ c.exceptionTable.toList, covers x i = false) (hRframes : names.length + 3 < R.frames) (hRlocals : (rest.map fun v => v.category).sum + (13 * (names.length + 1) + 43) ≤ R.locals) (hRcells : cells + 1 ≤ R.cells) (hRslots : slots + 6 ≤ R.slots) (hlocks : meth.locks = false)
    (hxp : XP cls (L, κ, g)) (hc : cells + 1 ≤ mc) (hs : slots + 6 ≤ ms) :
    W p l e R s m args below meth c H locs cells slots (vx_MQ below Qc (vx_X (fun u : zS => True) (fun (E : String) (u : zS) (t : State) => XP E u ∧ zB D tc (zA [] L0 s.heap.size) [] u t) (zA [] L0 s.heap.size)) args s mc ms (zA [] L0 s.heap.size)) (F0 m pc ls rest) := by
  obtain ⟨hx, hb, hts, hown, hK⟩ := hM
  obtain ⟨sa, hsa⟩ := hE.2.1 own is text hstr
  refine vx_throwSW (names := names) (sa := sa) (A := zA [] L0 s.heap.size) hx hb hl hown hcls hnames (hts _ hk) (hts _ hini) hsa ?_ hgood hE.2.2.2.2.1 hE.2.2.2.2.2.1 hI.2.1 hsize d0 d3 d4 d6 d9 (hout _) hRframes hRlocals hRcells hRslots hlocks (fun t hvm hz hq => ?_) (z_locs hI) hc hs
  · intro w hw
    by_cases gw : goodWord w = true
    · exact hts _ (hg1 w (List.mem_filter.mpr ⟨hw, gw⟩))
    · obtain ⟨h1, h2⟩ := hg2 w (List.mem_filter.mpr ⟨hw, by simp [gw]⟩)
      exact va_Nw.use (zNo_ot h1) (hE.1 w h2 (zNo_k h1))
  · obtain ⟨h1, h2⟩ := z_grow hK hI hvm hz hq
    exact ⟨(L, κ, g), trivial, ⟨hxp, h1⟩, h2⟩
/-- not caught here -/
theorem z_pass {Qc : Array Value → State → Outcome → State → Prop} {XP : String → zS → Prop} {E : String} {ce : Cell} {q : Addr} {L0 : List Nat} (hK : va_K D vwCl (zTy tc) s) (hI : zI D tc (zA [] L0 s.heap.size) s.heap [] L κ g H locs) (hout : ∀ (i : Nat), ∀ x ∈ c.exceptionTable.toList, covers x i = false) (hlocks : meth.locks = false) (hcell : H[q]? = some ce) (hv : ce.vm = .none) (hcl : s.vm.findClass E = some ce.cls)
    (hxp : XP E (L, κ, g)) (hc : cells ≤ mc) (hs : slots ≤ ms) : vx_W p l e R s m args below meth c H locs cells slots (vx_MQ below Qc (vx_X (fun u : zS => True) (fun (E : String) (u : zS) (t : State) => XP E u ∧ zB D tc (zA [] L0 s.heap.size) [] u t) (zA [] L0 s.heap.size)) args s mc ms (zA [] L0 s.heap.size)) (F0 m pc ls rest) q :=
  vx_out (hout _) hlocks hcell hv hcl (fun t ht hvm => by
    obtain ⟨h1, h2⟩ := z_grow (t := t) hK hI hvm (by rw [ht]; exact Nat.le_refl _) (fun q _ => by rw [ht])
    exact ⟨(L, κ, g), trivial, ⟨hxp, h1⟩, h2⟩) (z_locs hI) hc hs
theorem z_xi {post : Int32 → zS → Prop} {XP : String → zS → Prop} (hI : zI D tc A s.heap [] L κ g H locs) (hr : vx_Run p l e R s m args below meth c H locs cells slots mc ms (F0 m pc ls st0) rest (va_Qi post (fun (u : zS) (t : State) => zB D tc (zA [] L H.size) [] u t) (zA [] L H.size) a) (vx_X (fun u : zS => True) (fun (E : String) (u : zS) (t : State) => XP E u ∧ zB D tc (zA [] L H.size) [] u t) (zA [] L H.size)) (zA [] L H.size))
    (kx : ∀ (E : String) (ce : Cell) (q9 : Addr) (u : zS) (H1 : Heap) (locs1 : List Loc), XP E u → zI D tc A s.heap [] u.1 u.2.1 u.2.2 H1 locs1 → H1[q9]? = some ce → ce.vm = .none → s.vm.findClass E = some ce.cls → vx_W p l e R s m args below meth c H1 locs1 (cells + mc) (slots + ms) Q (F0 m pc ls rest) q9)
    (kk : ∀ (r : Int32) (u : zS) (H1 : Heap) (locs1 : List Loc), post r u → zI D tc A s.heap [] u.1 u.2.1 u.2.2 H1 locs1 → W p l e R s m args below meth c H1 locs1 (cells + mc) (slots + ms) Q (F0 m (pc + 3) ls (.int r :: rest))) : W p l e R s m args below meth c H locs cells slots Q (F0 m pc ls st0) :=
  vx_calli hr hI.2.1 (fun q _ h => z_sub hI [] rfl rfl q h) (z_sub hI [] rfl rfl) (fun q _ h => z_sub hI [] rfl rfl q h)
    (fun E ce q9 u t H1 locs1 ht hvm hpx hbx hz hk hS1 h1 h2 h3 => kx E ce q9 u H1 locs1 hbx.1 (z_back hI ht hbx.2 hS1) h1 h2 h3)
    (fun r u t H1 locs1 ht hvm hw hB hz1 hk1 hS1 => kk r u H1 locs1 hw (z_back hI ht hB hS1))
theorem z_xl {post : Int64 → zS → Prop} {XP : String → zS → Prop} (hI : zI D tc A s.heap [] L κ g H locs) (hr : vx_Run p l e R s m args below meth c H locs cells slots mc ms (F0 m pc ls st0) rest (va_Ql post (fun (u : zS) (t : State) => zB D tc (zA [] L H.size) [] u t) (zA [] L H.size) a) (vx_X (fun u : zS => True) (fun (E : String) (u : zS) (t : State) => XP E u ∧ zB D tc (zA [] L H.size) [] u t) (zA [] L H.size)) (zA [] L H.size))
    (kx : ∀ (E : String) (ce : Cell) (q9 : Addr) (u : zS) (H1 : Heap) (locs1 : List Loc), XP E u → zI D tc A s.heap [] u.1 u.2.1 u.2.2 H1 locs1 → H1[q9]? = some ce → ce.vm = .none → s.vm.findClass E = some ce.cls → vx_W p l e R s m args below meth c H1 locs1 (cells + mc) (slots + ms) Q (F0 m pc ls rest) q9)
    (kk : ∀ (r : Int64) (u : zS) (H1 : Heap) (locs1 : List Loc), post r u → zI D tc A s.heap [] u.1 u.2.1 u.2.2 H1 locs1 → W p l e R s m args below meth c H1 locs1 (cells + mc) (slots + ms) Q (F0 m (pc + 3) ls (.long r :: rest))) : W p l e R s m args below meth c H locs cells slots Q (F0 m pc ls st0) :=
  vx_calll hr hI.2.1 (fun q _ h => z_sub hI [] rfl rfl q h) (z_sub hI [] rfl rfl) (fun q _ h => z_sub hI [] rfl rfl q h)
    (fun E ce q9 u t H1 locs1 ht hvm hpx hbx hz hk hS1 h1 h2 h3 => kx E ce q9 u H1 locs1 hbx.1 (z_back hI ht hbx.2 hS1) h1 h2 h3)
    (fun r u t H1 locs1 ht hvm hw hB hz1 hk1 hS1 => kk r u H1 locs1 hw (z_back hI ht hB hS1))
theorem z_xq {post : Option Nat → zS → Prop} {XP : String → zS → Prop} (hI : zI D tc A s.heap [] L κ g H locs) (hr : vx_Run p l e R s m args below meth c H locs cells slots mc ms (F0 m pc ls st0) rest (va_Qq post (fun (u : zS) (t : State) => zB D tc (zA [] L H.size) [] u t) (zA [] L H.size) a) (vx_X (fun u : zS => True) (fun (E : String) (u : zS) (t : State) => XP E u ∧ zB D tc (zA [] L H.size) [] u t) (zA [] L H.size)) (zA [] L H.size))
    (kx : ∀ (E : String) (ce : Cell) (q9 : Addr) (u : zS) (H1 : Heap) (locs1 : List Loc), XP E u → zI D tc A s.heap [] u.1 u.2.1 u.2.2 H1 locs1 → H1[q9]? = some ce → ce.vm = .none → s.vm.findClass E = some ce.cls → vx_W p l e R s m args below meth c H1 locs1 (cells + mc) (slots + ms) Q (F0 m pc ls rest) q9)
    (kk : ∀ (r : Option Nat) (u : zS) (H1 : Heap) (locs1 : List Loc), post r u → zI D tc A s.heap [] u.1 u.2.1 u.2.2 H1 locs1 → W p l e R s m args below meth c H1 locs1 (cells + mc) (slots + ms) Q (F0 m (pc + 3) ls (va_rf r :: rest))) : W p l e R s m args below meth c H locs cells slots Q (F0 m pc ls st0) :=
  vx_callq hr hI.2.1 (fun q _ h => z_sub hI [] rfl rfl q h) (z_sub hI [] rfl rfl) (fun q _ h => z_sub hI [] rfl rfl q h)
    (fun E ce q9 u t H1 locs1 ht hvm hpx hbx hz hk hS1 h1 h2 h3 => kx E ce q9 u H1 locs1 hbx.1 (z_back hI ht hbx.2 hS1) h1 h2 h3)
    (fun r u t H1 locs1 ht hvm hw hB hz1 hk1 hS1 => kk r u H1 locs1 hw (z_back hI ht hB hS1))
end ZTHROW
