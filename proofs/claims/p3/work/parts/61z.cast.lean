section ZCS
variable {p : Program} {l : Launch} {e : Env} {R : Room} {s : State} {m : MethodId} {args : Array Value} {below : List Frame} {meth : Method} {c : Code} {H : Heap} {locs : List Loc} {cells slots : Nat} {Q : State → Prop}
variable {cc : ByteArray} {pc : Nat} {ls : Array Slot} {rest : List Value} {D : va_G} {tc : Nat → ClassId} {A : Nat → Prop} {H0 : Heap} {X : va_W} {L : List Nat} {κ : Nat → Nat} {g : Nat → Nat → Value} {Ts : List Cond} {own : String}
variable {a k ci N index : Nat} {ts : List (Nat × Nat)} {C : String} {T : u_T}
/-- a cast of an object of the pool to its own class -/
theorem z_castS (hM : zM p s m c cc args Ts own D tc) (hI : zI D tc A H0 X L κ g H locs) (hk : κ a = k) (ho : zO k = some (ci, ts)) (hc : vwCl[ci]? = some (C, T, N)) (hlink : Cond.classLink own index C ∈ Ts) (hdg : decode cc pc = .ok (.checkcast index, 3))
    (kk : W p l e R s m args below meth c H locs cells slots Q (F0 m (pc + 3) ls (.ref a :: rest))) : W p l e R s m args below meth c H locs cells slots Q (F0 m pc ls (.ref a :: rest)) := by
  have hr := z_recv hM.2.2.2.2 hI hk ho hc
  obtain ⟨hx, hb, hts, hown, hK⟩ := hM
  exact va_castS hx hb hown (hts _ hlink) (hK.1 ci _ hc).2 hr hdg kk
end ZCS
