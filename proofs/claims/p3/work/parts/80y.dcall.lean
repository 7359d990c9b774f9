/-! a static method with handlers that may draw: called, and what it says behind the call -/
section ZDC
variable {cs : List Choice} {p : Program} {l : Launch} {e : Env} {R : Room} {s : State} {m : MethodId} {args : Array Value} {below : List Frame} {meth : Method} {c : Code} {T : State} {H : Heap} {locs : List Loc} {cells slots : Nat}
variable {y : MethodName} {bytes cc : ByteArray} {maxL nL mc ms n index : Nat} {ret : Option FieldType} {hh : List (Nat × Nat × Nat × Nat)} {ws ws' : List Cond} {rm : Room} {Pc : Array Value → State → Prop} {Qc : Array Value → State → Outcome → State → Prop} {free : Addr → Prop} {Ts : List Cond} {own : String} {As rest : List Value} {g : JFrame}
/-- the state behind a callee's end is the caller's, gone on -/
theorem z_dsame {U t : State} {L : List Loc} {k n : Nat} {mk : MethodId} {a : Array Value} {v : Option Value} (hat : At U g.method c below) (hdg : decode c.code g.pc = .ok (.invokestatic index, 3)) (hf : FrameEnd (U.calling g mk a) (.returned v) t L k n) (hend : Ended t (U.setTop g).frames (.returned v)) :
    t = (({ U with heap := t.heap, slotsUsed := t.slotsUsed } : State).setVm t.vm).setTop { g with pc := g.pc + 3, stack := v.toList ++ g.stack } ∧ U.sameButNew ({ U with heap := t.heap, slotsUsed := t.slotsUsed } : State) L k n ∧ U.WarmedH t.vm := by
  rw [State.frames_setTop' g hat.top] at hend
  obtain ⟨-, hW, e2, q2, q3, q4, q5, q6⟩ := hf
  have hW2 : U.WarmedH t.vm := hW
  obtain ⟨c2, i2, n2, hc2, hd2, hf2⟩ := hend
  have hcc : c2 = c := by
    have h1 : t.code? g.method = U.code? g.method := by rw [State.code?_eq, State.code?_eq, hW2.alike.method?]
    exact Option.some.inj (hc2.symm.trans (h1.trans hat.code))
  subst hcc
  obtain rfl : n2 = 3 := by rw [hdg] at hd2; cases hd2; rfl
  obtain ⟨g0, hg0⟩ := Option.isSome_iff_exists.mp hat.top
  obtain ⟨r, hr⟩ := State.topJava?_eq_some.mp hg0
  have hr : U.frames = .java g0 :: r := hr
  refine ⟨?_, ⟨?_, q2, q3, q4, q5, q6⟩, hW2⟩
  · have e3 : t = ({ (U.calling g mk a).setFrames t.frames with heap := t.heap, slotsUsed := t.slotsUsed } : State).setVm t.vm := by
      have e4 : t = ({ t with vm := (U.calling g mk a).vm } : State).setVm t.vm := rfl
      rw [e2] at e4
      exact e4
    have hr2 : (({ U with heap := t.heap, slotsUsed := t.slotsUsed } : State).setVm t.vm).frames = .java g0 :: r := hr
    refine e3.trans ?_
    rw [hf2, State.calling_eq hat.top, State.setFrames_setFrames, State.setTop_of_frames _ hr2, hr]
    rfl
  · obtain ⟨x, hx, -⟩ := State.frames_cons hr
    show ({ U with heap := t.heap, slotsUsed := t.slotsUsed } : State) = { U.setFrames U.frames with heap := t.heap, slotsUsed := t.slotsUsed }
    rw [State.setFrames_self hx]
theorem z_runSD (S : CallFix p m c cc nL s args Ts own) (hM : MetD cs l y ws rm Pc Qc mc ms free) (cw : vx_CSW R s args own index y bytes maxL ret hh ws rm mc ms n) (hp : PreS s H Pc As)
    (hg : g.method = m) (hn : As.length = n) (hsize : g.locals.size = nL) (hstack : g.stack = As.reverse ++ rest) (hW : 2 * g.monitorRoom + (rest.map fun v => v.category).sum ≤ 8) (hdg : decode cc g.pc = .ok (.invokestatic index, 3)) (hf : cells + mc ≤ R.cells ∧ slots + ms ≤ R.slots) :
    va_RunD cs p l e R s m args below meth c H locs cells slots mc ms g rest (Qc As.toArray) free := by
  obtain ⟨⟨hrc, hrs, hfr, hlo, hws, hcw⟩, hcode, hini, hy, hlen, hl, hst⟩ := cw
  obtain ⟨hx, hb, hml, ho, -⟩ := S
  intro T hT X
  subst hg
  have hdg' : decode c.code g.pc = .ok (.invokestatic index, 3) := by rw [hb]; exact hdg
  obtain ⟨mk, methM, cM, hnamed, hmM, hcM, -, hlM, -, -, -, hsig⟩ := Cond.codeWith_spec hcode
  have hstat : methM.isStatic = true := Cond.static_spec hnamed hmM hst
  obtain ⟨kP, hkP, -⟩ := className_of_methodNamed hnamed
  have hkI : kP.init = .initialized := Cond.initialized_spec (findClass_of_methodNamed hnamed) hkP hini
  obtain ⟨vm1, X1, st1⟩ := X.invokestatic hx ho hl hnamed hmM hstat hkP hkI hy (g := g) rfl (argsL := As) (rest := rest) (hn.trans (hlen _ hsig)) hstack hdg'
  -- the callee
  have hn1 : (T.setVm vm1).methodNamed? y = some mk := X1.named hnamed
  have hW1 := X1.warmed
  obtain ⟨m9, methY, cY, hn9, hmY, hcY, -, hlY, -⟩ := Cond.codeWith_spec (hws _ hcw As.toArray (T.setVm vm1) hW1)
  obtain rfl : m9 = mk := Option.some.inj (hn9.symm.trans hn1)
  obtain ⟨kY, hkY, -⟩ := className_of_methodNamed hn1
  have hkYI : kY.init = .initialized := Cond.initialized_spec (findClass_of_methodNamed hn1) hkY (word_at (a' := As.toArray) hW1 (Or.inl (by first | rfl | simp [Cond.onTables, Cond.keeps, Cond.steady])) hini)
  have hat : At (T.setVm vm1) g.method c below := X1.here
  have hpre : (headSpec ws rm).pre.before As.toArray (T.setVm vm1) = true := atoms_intro fun w hw => hws w hw _ _ hW1
  have happ : (headSpec ws rm).appliesLoose y e.platform ((T.setVm vm1).calling { g with stack := rest } m9 As.toArray) = true :=
    Spec.appliesLoose_calling (g := { g with stack := rest }) hat hdg' hn1 hkY hkYI
      (X1.room_calling (g := { g with stack := rest }) (R' := (headSpec ws rm).room) (hsize.trans hml.symm) hmY hcY hfr (by rw [hlY]; show _ + rm.locals ≤ _; have := hW; simp only at this ⊢; omega) (by show _ + rm.cells ≤ _; rw [hrc]; exact hf.1) (by show _ + rm.slots ≤ _; rw [hrs]; exact hf.2)) hpre
  obtain ⟨mid, hmid⟩ := hat.above
  have hfr2 : ((T.setVm vm1).setTop { g with stack := rest }).frames = (.java { g with stack := rest } :: mid) ++ below := by rw [State.frames_setTop' _ hat.top, hmid]; rfl
  have hPc : Pc As.toArray ((T.setVm vm1).calling { g with stack := rest } m9 As.toArray) := hp.1 _ _ _ _ (hp.2 (T.setVm vm1) hT hW1)
  obtain ⟨o, s2, hsteps, -, hend, d, hd, hq, L, hfe, hL⟩ := Steps.callFree hM p X.admits X.cas X.clock (acts := []) hfr2 happ hPc trivial
  have hdr : ((T.setVm vm1).calling { g with stack := rest } m9 As.toArray).drawn = s.drawn := by
    rw [State.calling_eq hat.top]
    exact X1.drawn_eq
  have hd : ((T.setVm vm1).calling { g with stack := rest } m9 As.toArray).drawn.sameBut d cs := hd
  have hq : Qc As.toArray (((T.setVm vm1).calling { g with stack := rest } m9 As.toArray).setDrawn d) o s2 := hq
  have hfe : FrameEnd (((T.setVm vm1).calling { g with stack := rest } m9 As.toArray).setDrawn d) o s2 L mc ms := hfe
  rw [hdr] at hd
  have hat2 : At ((T.setVm vm1).setDrawn d) g.method c below := hat.setDrawn d
  have X2 : Stand p l e R (s.setDrawn d) g.method args below meth c ((T.setVm vm1).setDrawn d) locs cells slots := X1.drew d
  have hcd : ((T.setVm vm1).calling { g with stack := rest } m9 As.toArray).setDrawn d = ((T.setVm vm1).setDrawn d).calling { g with stack := rest } m9 As.toArray := by
    rw [State.calling_eq hat.top, State.calling_eq hat2.top]
    rfl
  rw [hcd] at hq hfe
  obtain ⟨⟨v, rfl⟩, -⟩ := id hfe
  obtain ⟨e1, e2, e3⟩ := z_dsame (g := { g with stack := rest }) hat2 hdg' hfe hend
  refine ⟨v, _, s2, (({ (T.setVm vm1).setDrawn d with heap := s2.heap, slotsUsed := s2.slotsUsed } : State).setVm s2.vm), L, d, hd, ?_,
    ⟨X2.admits, X2.cas, X2.clock, X2.frames, X2.room, X2.hears, X2.method, X2.code, (X2.here.setHeapUsed s2.heap s2.slotsUsed).setVm e3.alike, X2.tail, State.WarmedH.trans X2.warmed e3, X2.limits, X2.bytes, X2.same.trans (e2.setVm (s.setDrawn d).vm)⟩, hL, rfl, rfl, hq, ?_⟩
  · exact hT
  · intro target h
    refine st1 _ fun acts => ?_
    rw [doInvoke_state]
    refine hsteps.trans ?_
    rw [e1]
    exact h
end ZDC
