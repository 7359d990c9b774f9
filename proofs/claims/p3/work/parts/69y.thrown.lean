/-! an exception whose constructor hands the text up by a number of its own pool: its words, and 'throw new E("text")' -/
def z_xw (own : String) (ic : Nat) (X : String) (ix : Nat) (rx : ByteArray) (Y : String) (names : List String) : List Cond :=
  Bundle.throwableAtoms ++ Bundle.throwableSAtoms ++ (Bundle.passSAtoms X Y ix rx ++ Bundle.chainSAtoms Y names) ++
  [.methodLink own ic (Bundle.initS X), .instantiable X 6, .castable X X, .selects X Bundle.tFill0 Bundle.tFill0, .selects X Bundle.tFill Bundle.tFill,
   .isRef (.static Bundle.tN "UNASSIGNED_STACK" Bundle.steD), .isRef (.static Bundle.tN "SUPPRESSED_SENTINEL" Bundle.listD), .fieldLink Bundle.tN 198 Bundle.tN "backtrace" "Ljava/lang/Object;", .lays Bundle.tN Bundle.tN "backtrace" "Ljava/lang/Object;"] ++
  [("cause", "Ljava/lang/Throwable;"), ("stackTrace", Bundle.steD), ("suppressedExceptions", Bundle.listD), ("detailMessage", "Ljava/lang/String;"), ("backtrace", "Ljava/lang/Object;")].map (fun f => Cond.lays X Bundle.tN f.1 f.2)
def z_atX (own : String) (ic : Nat) (X : String) (ix : Nat) (rx : ByteArray) (Y : String) (names : List String) : List Cond := (z_xw own ic X ix rx Y names).filter vx_no
section ZCTOR
variable {p : Program} {l : Launch} {e : Env} {R : Room} {s : State} {m : MethodId} {args : Array Value} {below : List Frame} {meth : Method} {c : Code} {W : State} {cells slots : Nat}
theorem z_xwl {own X Y : String} {ic ix : Nat} {rx : ByteArray} {names : List String} {f d : String} (h : (f, d) ∈ [("cause", "Ljava/lang/Throwable;"), ("stackTrace", Bundle.steD), ("suppressedExceptions", Bundle.listD), ("detailMessage", "Ljava/lang/String;"), ("backtrace", "Ljava/lang/Object;")]) : Cond.lays X Bundle.tN f d ∈ z_xw own ic X ix rx Y names :=
  List.mem_append_right _ (List.mem_map.mpr ⟨(f, d), h, rfl⟩)
theorem z_xwo {own X Y : String} {ic ix : Nat} {rx : ByteArray} {names : List String} {w : Cond} (h : w ∈ [Cond.methodLink own ic (Bundle.initS X), .instantiable X 6, .castable X X, .selects X Bundle.tFill0 Bundle.tFill0, .selects X Bundle.tFill Bundle.tFill, .isRef (.static Bundle.tN "UNASSIGNED_STACK" Bundle.steD), .isRef (.static Bundle.tN "SUPPRESSED_SENTINEL" Bundle.listD), .fieldLink Bundle.tN 198 Bundle.tN "backtrace" "Ljava/lang/Object;", .lays Bundle.tN Bundle.tN "backtrace" "Ljava/lang/Object;"]) : w ∈ z_xw own ic X ix rx Y names :=
  List.mem_append_left _ (List.mem_append_right _ h)
theorem z_xwp {own X Y : String} {ic ix : Nat} {rx : ByteArray} {names : List String} {w : Cond} (h : w ∈ Bundle.passSAtoms X Y ix rx) : w ∈ z_xw own ic X ix rx Y names :=
  List.mem_append_left _ (List.mem_append_left _ (List.mem_append_right _ (List.mem_append_left _ h)))
theorem z_xwc {own X Y : String} {ic ix : Nat} {rx : ByteArray} {names : List String} {w : Cond} (h : w ∈ Bundle.chainSAtoms Y names) : w ∈ z_xw own ic X ix rx Y names :=
  List.mem_append_left _ (List.mem_append_left _ (List.mem_append_right _ (List.mem_append_right _ h)))
theorem z_xwt {own X Y : String} {ic ix : Nat} {rx : ByteArray} {names : List String} {w : Cond} (h : w ∈ Bundle.throwableAtoms) : w ∈ z_xw own ic X ix rx Y names :=
  List.mem_append_left _ (List.mem_append_left _ (List.mem_append_left _ (List.mem_append_left _ h)))
theorem z_xws {own X Y : String} {ic ix : Nat} {rx : ByteArray} {names : List String} {w : Cond} (h : w ∈ Bundle.throwableSAtoms) : w ∈ z_xw own ic X ix rx Y names :=
  List.mem_append_left _ (List.mem_append_left _ (List.mem_append_left _ (List.mem_append_right _ h)))
/-- a virtual call on such an object chooses the method that the word names -/
theorem z_sel {X : String} {t : MethodName} {cX : ClassId} {mt : MethodId} (ha : l.admits e) (hX : s.vm.findClass X = some cX) (hn : s.methodNamed? t = some mt) (hd : t.cls ≠ "java/lang/invoke/MethodHandle" ∧ t.cls ≠ "java/lang/invoke/VarHandle") (h : (Cond.selects X t t).before args s = true) : selectMethod e.platform s.vm cX mt = .method mt := by
  obtain ⟨c1, r1, m1, h1, h2, h3, h4, -⟩ := Cond.selects_spec (show (Cond.selects X t t).holds args s none s [] = true from h)
  obtain rfl : c1 = cX := Option.some.inj (h1.symm.trans hX)
  obtain rfl : r1 = mt := Option.some.inj (h2.symm.trans (State.methodFound?_of_named hn hd))
  obtain rfl : m1 = r1 := Option.some.inj (h3.symm.trans hn)
  exact (Launch.admits_selectMethod ha ..).trans h4
/-- the constructors of the chain above -/
theorem z_chain {own X Y : String} {ic ix : Nat} {rx : ByteArray} {names : List String} {pl : Platform} {top : MethodId} (hpl : pl.magicAccessors = ({} : Platform).magicAccessors) (htop : s.methodNamed? (Bundle.initS Bundle.tN) = some top)
    (x0 : decode rx 0 = .ok (.aload_n 0, 1)) (x1 : decode rx 1 = .ok (.aload_n 1, 1)) (x2 : decode rx 2 = .ok (.invokespecial ix, 3)) (x5 : decode rx 5 = .ok (.return_, 1))
    (hX : Bundle.fit X = true) (hY : Bundle.fit Y = true) (hN : ∀ n ∈ names, Bundle.fit n = true) (h : ∀ w ∈ z_xw own ic X ix rx Y names, w.before args s = true) :
    ∃ (P : PassC) (Ps : List PassC), Ps.length = names.length + 1 ∧ s.methodNamed? (Bundle.initS X) = some P.m ∧ (∀ P', P' ∈ P :: Ps → P'.LinksS pl s) ∧ PassesOn top ((P :: Ps).map (·.toPassT)) := by
  obtain ⟨P, L, hm, hs⟩ := PassC.ofS_atoms (args := args) hpl (Bundle.fit_spec hX).1 (Bundle.fit_spec hY).2 x0 x1 x2 x5 (fun w hw => h w (z_xwp hw))
  obtain ⟨P2, Ps, hlen, L2, hL, hm2, hs2, hp⟩ := Bundle.chainS (args := args) hpl htop names Y hY hN (fun w hw => h w (z_xwc hw))
  refine ⟨P, P2 :: Ps, by simp [hlen], hm, fun P' hP => ?_, ⟨Option.some.inj (hs.symm.trans hm2), hs2, hp⟩⟩
  rcases List.mem_cons.mp hP with rfl | hP
  · exact L
  · rcases List.mem_cons.mp hP with rfl | hP
    · exact L2
    · exact hL _ hP
set_option maxHeartbeats 2000000 in
theorem z_ctorX (X : Stand p l e R s m args below meth c W [] cells slots) (hexec : p.tables.exec = Jvm.exec) (htr : e.platform.stackTraces = false) {own E Y : String} {ic ix : Nat} {rx : ByteArray} {names : List String}
    (x0 : decode rx 0 = .ok (.aload_n 0, 1)) (x1 : decode rx 1 = .ok (.aload_n 1, 1)) (x2 : decode rx 2 = .ok (.invokespecial ix, 3)) (x5 : decode rx 5 = .ok (.return_, 1))
    (hown : s.vm.findClass own = some m.cls) (hE : Bundle.fit E = true) (hY : Bundle.fit Y = true) (hN : ∀ n ∈ names, Bundle.fit n = true) (h : ∀ w ∈ z_xw own ic E ix rx Y names, w.before args s = true)
    {a : Addr} {cX : ClassId} {kX : Class} (hf : s.vm.findClass E = some cX) (hkX : s.vm.classes[cX]? = some kX) (hcell : W.heap[a]? = some (freshCell cX kX)) (hnew : s.heap.size ≤ a) {msg : Value} (hmsg : msg.isRef = true)
    {g : JFrame} (hg : g.method = m) (hsize : g.locals.size = c.maxLocals) (hlk : g.locked = none) (hen : g.entered = []) {rest : List Value} (hst : g.stack = msg :: .ref a :: .ref a :: rest)
    (d1 : decode c.code g.pc = .ok (.invokespecial ic, 3)) (d2 : decode c.code (g.pc + 3) = .ok (.athrow, 1)) (hout : ∀ x ∈ c.exceptionTable.toList, covers x (g.pc + 3) = false)
    (hRf : names.length + 4 < R.frames) (hRl : 2 * g.monitorRoom + ((Value.ref a :: rest).map fun v => v.category).sum + (13 * (names.length + 2) + 42) ≤ R.locals) (hlocks : meth.locks = false) :
    ∃ U : State, Steps p.tables e below (W.setTop g) U ∧ U.status = .running ∧ Ended U below (.threw a) ∧ s.WarmedH U.vm ∧ s.sameButNew ({ U with vm := s.vm } : State) [] cells slots ∧
      ∃ ce, U.heap[a]? = some ce ∧ s.vm.findClass E = some ce.cls ∧ ce.vm = .none := by
  have hpl : e.platform.magicAccessors = ({} : Platform).magicAccessors := by rw [X.admits.platform]
  have hh : ∀ w, w ∈ z_xw own ic E ix rx Y names → w.holds args s none s [] = true := fun w hw => h w hw
  obtain ⟨T, Z0, L, -, Ti⟩ := ThrowableC.of_atoms (args := args) (s := s) (pl := e.platform) (by rw [X.admits.platform]) (by rw [X.admits.platform]) hpl (fun w hw => h w (z_xwt hw))
  obtain ⟨Z, M, LZ, LM, hZ⟩ := Init0T.ofS_atoms (args := args) hpl L Ti (fun w hw => h w (z_xws hw))
  obtain ⟨P, Ps, hlen, hP, hLs, hon⟩ := z_chain (args := args) (own := own) hpl hZ x0 x1 x2 x5 hE hY hN h
  obtain ⟨c1, k1, hc1, hk1, hord, -, -, -⟩ := Cond.instantiable_spec (hh (.instantiable E 6) (z_xwo (by simp)))
  obtain rfl : cX = c1 := Option.some.inj (hf.symm.trans hc1)
  obtain rfl : kX = k1 := Option.some.inj (hkX.symm.trans hk1)
  have s0 := z_sel X.admits hf Ti.fill0 (by decide) (h (.selects E Bundle.tFill0 Bundle.tFill0) (z_xwo (by simp)))
  have s1 := z_sel X.admits hf Ti.fill (by decide) (h (.selects E Bundle.tFill Bundle.tFill) (z_xwo (by simp)))
  -- Throwable's statics
  obtain ⟨cs0, hcs0, his⟩ := Ti.statics
  obtain ⟨u0, hu0⟩ := Cond.staticRefV Ti.unassigned L.unassignedStatic L.statics hcs0 his (hh (.isRef (.static Bundle.tN "UNASSIGNED_STACK" Bundle.steD)) (z_xwo (by simp)))
  obtain ⟨sen, hsen⟩ := Cond.staticRefV Ti.sentinel L.sentinelStatic L.statics hcs0 his (hh (.isRef (.static Bundle.tN "SUPPRESSED_SENTINEL" Bundle.listD)) (z_xwo (by simp)))
  obtain ⟨csW, hcsW, hev, -, hkeep⟩ := X.same.2.2.2.2.2 T.aS cs0 hcs0
  have hunk : csW.vm ≠ .unknown := by
    rw [hev]
    intro hu
    have hu2 : cs0.vm = .unknown := hu
    rw [hu2] at his
    cases his
  have hneS : T.aS ≠ a := fun q => absurd (Array.getElem?_eq_some_iff.mp hcs0).1 (Nat.not_lt.mpr (q ▸ hnew))
  have hslots : csW.slots[T.fUnassigned.slot]? = some u0.v ∧ csW.slots[T.fSentinel.slot]? = some sen.v :=
    ⟨(hkeep _ (fun q => nomatch q)).trans hu0, (hkeep _ (fun q => nomatch q)).trans hsen⟩
  -- the new object's fields
  obtain ⟨ib, ifb, fb, b1, b2, b3, b4, -, b5, b6, b7⟩ := Cond.ownField (t := .object "java/lang/Object") Ti.found L.cls (by decide +kernel) (hh (.fieldLink Bundle.tN 198 Bundle.tN "backtrace" "Ljava/lang/Object;") (z_xwo (by simp))) (hh (.lays Bundle.tN Bundle.tN "backtrace" "Ljava/lang/Object;") (z_xwo (by simp))) e.platform hpl
  obtain ⟨iM, hfM⟩ := Ti.msg
  obtain ⟨yC, dC, eC, nC⟩ := Cond.laysAt hf hkX Ti.cause (hh (.lays E Bundle.tN "cause" "Ljava/lang/Throwable;") (z_xwl (by simp)))
  obtain ⟨yS, dS, eS, nS⟩ := Cond.laysAt hf hkX Ti.stack (hh (.lays E Bundle.tN "stackTrace" Bundle.steD) (z_xwl (by simp)))
  obtain ⟨yP, dP, eP, nP⟩ := Cond.laysAt hf hkX Ti.supp (hh (.lays E Bundle.tN "suppressedExceptions" Bundle.listD) (z_xwl (by simp)))
  obtain ⟨yM, -, -, -⟩ := Cond.laysAt hf hkX hfM (hh (.lays E Bundle.tN "detailMessage" "Ljava/lang/String;") (z_xwl (by simp)))
  obtain ⟨yB, dB, eB, nB⟩ := Cond.laysAt hf hkX b7 (hh (.lays E Bundle.tN "backtrace" "Ljava/lang/Object;") (z_xwl (by simp)))
  have q1 := Cond.laysApart eB eC nB nC (by rw [b5, Ti.causeName]; decide)
  have q2 := Cond.laysApart eB eS nB nS (by rw [b5, Ti.stackName]; decide)
  have q3 := Cond.laysApart eB eP nB nP (by rw [b5, Ti.suppName]; decide)
  have hskip : SkipFacts T e.platform s (fun u => u) u0 ((preparedCellV T.toThrowableT (freshCell cX kX) a u0 sen).withEntry W.cur) := by
    refine ⟨⟨ib, ifb, fb⟩, ⟨b1, b2, b3, b4⟩, ?_, fun _ _ => rfl⟩
    have q0 := fresh_default (c := cX) yB
    rw [b6] at q0
    simpa [preparedCellV, Cell.setSlot, Cell.withEntry, Array.getElem?_setIfInBounds, q1, q2, q3, q1.symm, q2.symm, q3.symm, defaultValue] using q0
  -- the call
  obtain ⟨tm, methC, cdC, kC, vm1, hnC, -, -, -, -, -, -, -, hW1, st1⟩ := Steps.initColdS (tb := p.tables) (e := e) (below := below) (s := s) (U := W) X.here hexec X.warmed hpl hown (t := Bundle.initS E) rfl rfl (Bundle.fit_spec hE).2
    (hh (.methodLink own ic (Bundle.initS E)) (z_xwo (by simp))) (h (.instanceMethod (Bundle.initS E)) (z_xwp (by simp [Bundle.passSAtoms]))) (bytes := rx) (maxL := 2) (h (.code (Bundle.initS E) rx 2 none) (z_xwp (by simp [Bundle.passSAtoms])))
    (f := g) hg (a := a) (msg := msg) (rest := .ref a :: rest) hst d1
  obtain rfl : tm = P.m := Option.some.inj (hnC.symm.trans hP)
  obtain ⟨vm2, X2, st2⟩ := (X.noted hW1).ctorMessageOffV hexec (g := { g with stack := .ref a :: rest }) hg hsize T L Z LZ M LM (P :: Ps) hLs hon (u0 := u0) (sen := sen) (self := a) hmsg (cell := freshCell cX kX) (cellS := csW)
    hcell (fun _ => by simp) (by simp) rfl rfl s0 s1 hcsW hneS hunk hslots.1 hslots.2
    (Takes.of_laid hkX hord yC (by rw [Ti.causeType]; rfl)) (Takes.of_laid hkX hord yS (by rw [Ti.stackType]; exact fits_refV_array _ u0)) (Takes.of_laid hkX hord yP (by rw [Ti.suppType]; exact fits_refV_object _ sen))
    (Takes.of_laid hkX hord yM (by rw [Ti.msgType]; exact fits_refV_object _ ⟨msg, hmsg⟩)) Ti.objLocals hskip htr [] d1
    (by simp only [List.length_cons, hlen]; omega) (by simp only [List.length_cons, hlen]; exact hRl)
  obtain ⟨w1, w2, w3, w4, w5⟩ := X2.athrowLeaves hexec (g := { g with stack := .ref a :: rest, pc := g.pc + 3 }) hg hlk hen hout (a := a) (rest := rest) rfl d2 hlocks
  have hlt : a < ((W.setVm vm1).setVm vm2).heap.size := (Array.getElem?_eq_some_iff.mp hcell).1
  refine ⟨_, st1 _ (fun acts => ?_), w2, w3, w4, w5.weaken (fun y hy hlt2 => ?_) (Nat.le_refl _) (Nat.le_refl _), _, heapAt_setCell_self (s := (W.setVm vm1).setVm vm2) (plainBareV T.toThrowableT (freshCell cX kX) a u0 sen msg) hlt, hf, rfl⟩
  · rw [doInvoke_state]
    exact st2 _ w1
  · exfalso
    have hb : y.base = a := by
      simp only [List.nil_append, List.mem_cons, List.not_mem_nil, or_false] at hy
      rcases hy with rfl | rfl | rfl | rfl | rfl <;> rfl
    exact Nat.not_lt.mpr hnew (hb ▸ hlt2)
end ZCTOR
