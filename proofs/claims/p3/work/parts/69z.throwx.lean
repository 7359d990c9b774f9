/-! 'throw new E("text")' where E hands the text up by a number of its own pool -/
section ZTHROWX
variable {p : Program} {l : Launch} {e : Env} {R : Room} {s : State} {m : MethodId} {args : Array Value} {below : List Frame} {meth : Method} {c : Code} {H : Heap} {locs : List Loc} {cells slots mc ms : Nat}
variable {pc : Nat} {ls : Array Slot} {rest : List Value} {D : va_G} {tc : Nat → ClassId} {L : List Nat} {κ : Nat → Nat} {g : Nat → Nat → Value} {cc : ByteArray} {Ts : List Cond} {own : String} {z0 : Nat}
set_option maxHeartbeats 1000000 in
theorem z_throwX {Qc : Array Value → State → Outcome → State → Prop} {XP : String → zS → Prop} {E text Y : String} {ik is ic ix n : Nat} {rx : ByteArray} {L0 : List Nat} (names : List String) (hN : ∀ n ∈ names, Bundle.fit n = true) (hY : Bundle.fit Y = true)
    (x0 : decode rx 0 = .ok (.aload_n 0, 1)) (x1 : decode rx 1 = .ok (.aload_n 1, 1)) (x2 : decode rx 2 = .ok (.invokespecial ix, 3)) (x5 : decode rx 5 = .ok (.return_, 1))
    (hM : zM p s m c cc args Ts own D tc) (hE : zE z0 (zA [] L0 s.heap.size) s) (hI : zI D tc (zA [] L0 s.heap.size) s.heap [] L κ g H locs) (hl : l.stackTraces = false) (hcls : Bundle.fit E = true)
    (hk : Cond.classLink own ik E ∈ Ts) (hini : Cond.initialized E ∈ Ts) (hstr : Cond.stringRef own is text ∈ tables_1) (hg1 : ∀ w ∈ (z_atX own ic E ix rx Y names).filter goodWord, w ∈ Ts) (hg2 : ∀ w ∈ (z_atX own ic E ix rx Y names).filter (fun w => !goodWord w), zNo w = true ∧ w ∈ tables_1)
    (hgood : ∀ w ∈ Cond.classLink own ik E :: Cond.initialized E :: z_atX own ic E ix rx Y names, vx_ot w = true) (hsize : ls.size = c.maxLocals)
    (d0 : decode cc pc = .ok (.new ik, 3)) (d3 : decode cc (pc + 3) = .ok (.dup, 1)) (d4 : (decode cc (pc + 4) = .ok (.ldc is, 2) ∧ n = 6) ∨ (decode cc (pc + 4) = .ok (.ldc_w is, 3) ∧ n = 7)) (d6 : decode cc (pc + n) = .ok (.invokespecial ic, 3)) (d9 : decode cc (pc + n + 3) = .ok (.athrow, 1))
    (hout : ∀ (i : Nat), ∀ x ∈ c.exceptionTable.toList, covers x i = false) (hRf : names.length + 4 < R.frames) (hRl : (rest.map fun v => v.category).sum + (13 * (names.length + 2) + 43) ≤ R.locals) (hRc : cells + 1 ≤ R.cells) (hRs : slots + 6 ≤ R.slots) (hlocks : meth.locks = false)
    (hxp : XP E (L, κ, g)) (hc : cells + 1 ≤ mc) (hs : slots + 6 ≤ ms) :
    W p l e R s m args below meth c H locs cells slots (vx_MQ below Qc (vx_X (fun u : zS => True) (fun (E : String) (u : zS) (t : State) => XP E u ∧ zB D tc (zA [] L0 s.heap.size) [] u t) (zA [] L0 s.heap.size)) args s mc ms (zA [] L0 s.heap.size)) (F0 m pc ls rest) := by
  obtain ⟨hx, hb, hts, hown, hK⟩ := hM
  obtain ⟨sa, hsa⟩ := hE.2.1 own is text hstr
  intro T hT X
  have htr : e.platform.stackTraces = false := (show e.platform.stackTraces = l.stackTraces by rw [X.admits.platform]).trans hl
  have X' := vx_rebase X (R' := { frames := R.frames, locals := R.locals, cells := 1, slots := 6 }) (Nat.le_refl _) (Nat.le_refl _) hRc hRs
  generalize hA : (T.setVm s.vm).setFrames (.invoking m args :: below) = s' at X'
  have hvm : s'.vm = s.vm := by rw [← hA]; rfl
  have hhp : s'.heap = H := by rw [← hA]; exact hT
  have hW : s.WarmedH s'.vm := by rw [hvm]; exact State.WarmedH.refl s
  have mv : ∀ w, vx_ot w = true → w.before args s = true → w.before args s' = true := fun w h1 h2 => vx_ot_at hW hvm.symm h1 h2
  have hall : ∀ w ∈ z_xw own ic E ix rx Y names, w.before args s' = true := by
    have hU : vx_Zq Bundle.tN "UNASSIGNED_STACK" Bundle.steD (zA [] L0 s.heap.size) s' s'.heap := by rw [hhp]; exact vx_Zq.moved hW.alike (hE.2.2.2.2.1.kept hI.2.1.2.1)
    have hV : vx_Zq Bundle.tN "SUPPRESSED_SENTINEL" Bundle.listD (zA [] L0 s.heap.size) s' s'.heap := by rw [hhp]; exact vx_Zq.moved hW.alike (hE.2.2.2.2.2.1.kept hI.2.1.2.1)
    refine vx_own (fun w hw => mv w (hgood w (List.mem_cons_of_mem _ (List.mem_cons_of_mem _ hw))) ?_) (vx_isRefq hU.1) (vx_isRefq hV.1) hU.2.word hV.2.word
    by_cases gw : goodWord w = true
    · exact hts _ (hg1 w (List.mem_filter.mpr ⟨hw, gw⟩))
    · obtain ⟨h1, h2⟩ := hg2 w (List.mem_filter.mpr ⟨hw, by simp [gw]⟩)
      exact va_Nw.use (zNo_ot h1) (hE.1 w h2 (zNo_k h1))
  have hown' : s'.vm.findClass own = some m.cls := by rw [hvm]; exact hown
  obtain ⟨vm1, cX, kX, hfX, hkX, -, -, X1, st1⟩ := X'.newCold hx (own := own) (C := E) (index := ik) (n := 6) hown' (mv _ (hgood _ List.mem_cons_self) (hts _ hk)) (hall _ (z_xwo (by simp))) (mv _ (hgood _ (List.mem_cons_of_mem _ List.mem_cons_self)) (hts _ hini))
    (g := F0 m pc ls rest) rfl (by rw [hb]; exact d0) (Nat.le_refl _) (Nat.le_refl _)
  generalize hT1 : (T.setVm vm1).pushCell { cls := cX, slots := kX.instanceTypes.map defaultValue, vm := .none } = T1 at X1 st1
  have hnew : T1.heap[T.heap.size]? = some (freshCell cX kX) := by rw [← hT1]; exact State.heap_pushCell_size _ _
  have hcat : (Value.ref T.heap.size).category = 1 := rfl
  obtain ⟨U, hst, hrun, hend, hWU, hsame, ce, hce, hcl, hnone⟩ := z_ctorX X1 hx htr (own := own) (E := E) x0 x1 x2 x5 hown' hcls hY hN hall hfX hkX hnew (by rw [hhp, hT]; exact Nat.le_refl _) (msg := .ref sa) rfl
    (g := { method := m, pc := pc + n, locals := ls, stack := .ref sa :: .ref T.heap.size :: .ref T.heap.size :: rest, locked := none }) rfl hsize rfl rfl (rest := rest) rfl
    (by rw [hb]; exact d6) (by rw [hb]; exact d9) (hout _) hRf (by simp only [List.map_cons, List.sum_cons, hcat]; omega) hlocks
  obtain ⟨f1, f2⟩ := vx_frame hsame
  rw [hhp] at f1 f2
  rw [hvm] at hcl
  have hWs : s.WarmedH U.vm := State.WarmedH.trans hW hWU
  have hsm : s.sameButNew ({ U with vm := s.vm } : State) locs mc ms := by
    subst hA
    obtain ⟨e1, e2⟩ := hsame
    rw [State.setFrames_setFrames] at e1
    have h3 := X.same.trans (⟨e1, e2⟩ : (T.setVm s.vm).sameButNew ({ U with vm := s.vm } : State) [] (0 + 1) (0 + 6))
    rw [List.append_nil] at h3
    exact h3.mono hc hs
  obtain ⟨g1, g2⟩ := z_grow hK hI hWs.alike f1 (fun q hq => f2 q hq (fun z hz => nomatch hz))
  refine ⟨U, st1 _ ?_, .threw T.heap.size, hrun, hend, Or.inr ⟨T.heap.size, rfl, E, ce, locs, ⟨(L, κ, g), trivial, ⟨hxp, g1⟩, g2⟩, hce, hnone, hcl, hWs, hsm, z_locs hI⟩⟩
  have d3' : decode c.code (pc + 3) = .ok (.dup, 1) := by rw [hb]; exact d3
  show Steps p.tables e below (T1.setTop { method := m, pc := pc + 3, locals := ls, stack := .ref T.heap.size :: rest, locked := none }) _
  jvm_step X1.here [X1.here.top, hx, d3', Value.category]
  have hsa' : vk_R own is text sa s' := vk_R.warm hW hsa
  rcases d4 with ⟨d4, rfl⟩ | ⟨d4, rfl⟩
  · exact X1.ldcString hx (own := own) (text := text) (index := is) (a := sa) hown' hsa'.1 hsa'.2 (g := { method := m, pc := pc + 4, locals := ls, stack := .ref T.heap.size :: .ref T.heap.size :: rest, locked := none }) rfl (by rw [hb]; exact d4) _ hst
  · exact X1.ldcStringW hx (own := own) (text := text) (index := is) (a := sa) hown' hsa'.1 hsa'.2 (g := { method := m, pc := pc + 4, locals := ls, stack := .ref T.heap.size :: .ref T.heap.size :: rest, locked := none }) rfl (by rw [hb]; exact d4) _ hst
end ZTHROWX
