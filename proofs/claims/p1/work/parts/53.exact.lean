/-! cells of the walk's own, read and written to the letter -/
section ZEXACT
variable {p : Program} {l : Launch} {e : Env} {R : Room} {s : State} {m : MethodId} {args : Array Value} {below : List Frame} {meth : Method} {c : Code} {H : Heap} {locs : List Loc} {cells slots mc ms : Nat} {Q : State → Prop}
variable {a0 : Array Value} {pc : Nat} {ls : Array Slot} {rest st0 : List Value} {D : va_G} {tc : Nat → ClassId} {A : Nat → Prop} {H0 : Heap} {X : va_W} {L : List Nat} {κ : Nat → Nat} {g : Nat → Nat → Value} {cc : ByteArray} {Ts : List Cond} {own : String} {a n ti i : Nat}
theorem z_laldE {hf : Nat → Int64} {j : Int32} {v : Int64} (hM : zM p s m c cc args Ts own D tc) (hI : zI D tc A H0 X L κ g H locs) (hX : X[i]? = some (a, .inl (tc 1, n, .inr (.inl hf)))) (hin : vp_in j n) (hv : hf j.toNatClampNeg = v) (hdg : decode cc pc = .ok (.laload, 1))
    (kk : W p l e R s m args below meth c H locs cells slots Q (F0 m (pc + 1) ls (.long v :: rest))) : W p l e R s m args below meth c H locs cells slots Q (F0 m pc ls (.int j :: .ref a :: rest)) := by
  obtain ⟨hx, hb, hts, hown, hK⟩ := hM
  obtain ⟨-, -, f, hP, -, -⟩ := hI
  have hlt : i < X.length := (List.getElem?_eq_some_iff.mp hX).1
  exact va_lald hx hb hK hP i 1 (by rw [List.getElem?_append_left hlt]; exact hX) rfl hin hdg (by rw [hv]; exact kk)
theorem z_lastE {hf : Nat → Int64} {j : Int32} {v : Int64} (hM : zM p s m c cc args Ts own D tc) (hI : zI D tc A H0 X L κ g H locs) (hX : X[i]? = some (a, .inl (tc 1, n, .inr (.inl hf)))) (hin : vp_in j n) (hdg : decode cc pc = .ok (.lastore, 1))
    (kk : ∀ (H1 : Heap) (locs1 : List Loc), zI D tc A H0 (X.set i (a, .inl (tc 1, n, .inr (.inl (vp_updL hf j.toNatClampNeg v))))) L κ g H1 locs1 → W p l e R s m args below meth c H1 locs1 cells slots Q (F0 m (pc + 1) ls rest)) : W p l e R s m args below meth c H locs cells slots Q (F0 m pc ls (.long v :: .int j :: .ref a :: rest)) := by
  obtain ⟨hx, hb, hts, hown, hK⟩ := hM
  obtain ⟨hA, hS, f, hP, hD, hT⟩ := hI
  have hlt : i < X.length := (List.getElem?_eq_some_iff.mp hX).1
  refine va_last hx hb hK hP hD hS i 1 (by rw [List.getElem?_append_left hlt]; exact hX) rfl hin hdg (fun H1 locs1 hP1 hD1 hS1 => ?_)
  rw [List.set_append_left _ _ hlt] at hP1 hD1
  exact kk H1 locs1 ⟨hA, hS1, f, hP1, hD1, hT⟩
theorem z_ialdE {hf : Nat → Int32} {j v : Int32} (hM : zM p s m c cc args Ts own D tc) (hI : zI D tc A H0 X L κ g H locs) (hX : X[i]? = some (a, .inl (tc 0, n, .inl hf))) (hin : vp_in j n) (hv : hf j.toNatClampNeg = v) (hdg : decode cc pc = .ok (.iaload, 1))
    (kk : W p l e R s m args below meth c H locs cells slots Q (F0 m (pc + 1) ls (.int v :: rest))) : W p l e R s m args below meth c H locs cells slots Q (F0 m pc ls (.int j :: .ref a :: rest)) := by
  obtain ⟨hx, hb, hts, hown, hK⟩ := hM
  obtain ⟨-, -, f, hP, -, -⟩ := hI
  have hlt : i < X.length := (List.getElem?_eq_some_iff.mp hX).1
  exact va_iald hx hb hK hP i 0 (by rw [List.getElem?_append_left hlt]; exact hX) rfl hin hdg (by rw [hv]; exact kk)
theorem z_iastE {hf : Nat → Int32} {j v : Int32} (hM : zM p s m c cc args Ts own D tc) (hI : zI D tc A H0 X L κ g H locs) (hX : X[i]? = some (a, .inl (tc 0, n, .inl hf))) (hin : vp_in j n) (hdg : decode cc pc = .ok (.iastore, 1))
    (kk : ∀ (H1 : Heap) (locs1 : List Loc), zI D tc A H0 (X.set i (a, .inl (tc 0, n, .inl (upd hf j.toNatClampNeg v)))) L κ g H1 locs1 → W p l e R s m args below meth c H1 locs1 cells slots Q (F0 m (pc + 1) ls rest)) : W p l e R s m args below meth c H locs cells slots Q (F0 m pc ls (.int v :: .int j :: .ref a :: rest)) := by
  obtain ⟨hx, hb, hts, hown, hK⟩ := hM
  obtain ⟨hA, hS, f, hP, hD, hT⟩ := hI
  have hlt : i < X.length := (List.getElem?_eq_some_iff.mp hX).1
  refine va_iast hx hb hK hP hD hS i 0 (by rw [List.getElem?_append_left hlt]; exact hX) rfl hin hdg (fun H1 locs1 hP1 hD1 hS1 => ?_)
  rw [List.set_append_left _ _ hlt] at hP1 hD1
  exact kk H1 locs1 ⟨hA, hS1, f, hP1, hD1, hT⟩
theorem z_aaldE {C : String} {hf : Nat → Option Nat} {j : Int32} {x : Option Nat} (hM : zM p s m c cc args Ts own D tc) (hI : zI D tc A H0 X L κ g H locs) (hX : X[i]? = some (a, .inl (tc ti, n, .inr (.inr (.inr (.inr hf)))))) (hti : (zTy tc)[ti]? = some (tc ti, .object C)) (hin : vp_in j n) (hv : hf j.toNatClampNeg = x) (hdg : decode cc pc = .ok (.aaload, 1))
    (kk : W p l e R s m args below meth c H locs cells slots Q (F0 m (pc + 1) ls (va_rf x :: rest))) : W p l e R s m args below meth c H locs cells slots Q (F0 m pc ls (.int j :: .ref a :: rest)) := by
  obtain ⟨hx, hb, hts, hown, hK⟩ := hM
  obtain ⟨-, -, f, hP, -, -⟩ := hI
  have hlt : i < X.length := (List.getElem?_eq_some_iff.mp hX).1
  exact va_aldq hx hb hK hP i ti (by rw [List.getElem?_append_left hlt]; exact hX) hti hin hdg (by rw [hv]; exact kk)
/-- one of the walk's own objects, put into one of its rows -/
theorem z_aastE {C : String} {T : u_T} {N ci i2 v : Nat} {fs : List Value} {j : Int32} {h : Nat → Option Nat} (hM : zM p s m c cc args Ts own D tc) (hI : zI D tc A s.heap X L κ g H locs) (hX : X[i]? = some (a, .inl (tc ti, n, .inr (.inr (.inr (.inr h)))))) (hti : (zTy tc)[ti]? = some (tc ti, .object C)) (hX2 : X[i2]? = some (v, .inr (ci, fs))) (hc : vwCl[ci]? = some (C, T, N))
    (hin : vp_in j n) (hdg : decode cc pc = .ok (.aastore, 1)) (kk : ∀ (H1 : Heap) (locs1 : List Loc), zI D tc A s.heap (X.set i (a, .inl (tc ti, n, .inr (.inr (.inr (.inr (va_up h j.toNatClampNeg (some v)))))))) L κ g H1 locs1 → W p l e R s m args below meth c H1 locs1 cells slots Q (F0 m (pc + 1) ls rest)) : W p l e R s m args below meth c H locs cells slots Q (F0 m pc ls (.ref v :: .int j :: .ref a :: rest)) := by
  obtain ⟨hx, hb, hts, hown, hK⟩ := hM
  have hr := z_recvX hK hI hX2 hc
  obtain ⟨hA, hS, f, hP, hD, hT⟩ := hI
  have hlt : i < X.length := (List.getElem?_eq_some_iff.mp hX).1
  refine vb_astq hx hb hK hP hD hS i ti (by rw [List.getElem?_append_left hlt]; exact hX) hti hr vb_asgS hin hdg (fun H1 locs1 hP1 hD1 hS1 => ?_)
  rw [List.set_append_left _ _ hlt] at hP1 hD1
  exact kk H1 locs1 ⟨hA, hS1, f, hP1, hD1, hT⟩
theorem z_clX {post : Int64 → zS → Prop} {Xc wr rx : va_W} (isC isR : List Nat) (hC : isC.map (fun i => X[i]?) = Xc.map some) (hR : isR.map (fun i => X[i]?) = wr.map some) (hnC : va_nd isC = true) (hn : va_nd isR = true) (hdis : ∀ i ∈ isR, i ∉ isC) (hI : zI D tc A s.heap X L κ g H locs) (hr : va_Run p l e R s m args below meth c H locs cells slots mc ms (F0 m pc ls st0) rest (va_Ql post (fun (u : zS) (t : State) => zB D tc (zA Xc L H.size) rx u t) (zA Xc L H.size) a0) (zA Xc L H.size))
    (kk : ∀ (r : Int64) (u : zS) (H1 : Heap) (locs1 : List Loc), post r u → zI D tc A s.heap (wr ++ rx) u.1 u.2.1 u.2.2 H1 locs1 → W p l e R s m args below meth c H1 locs1 (cells + mc) (slots + ms) Q (F0 m (pc + 3) ls (.long r :: rest))) : W p l e R s m args below meth c H locs cells slots Q (F0 m pc ls st0) :=
  va_calll hr hI.2.1 (fun q _ h => z_sub hI isC hnC hC q h) (z_sub hI isC hnC hC) (fun r u t H1 locs1 ht hvm hw hB hz1 hk1 hS1 => kk r u H1 locs1 hw (z_backX hI isC isR hC hR hnC hn hdis hk1 ht hB hS1))
theorem z_cvE {S : Type} {sel : S → zS} {rxf : S → va_W} {post : S → Prop} {Xc wr : va_W} (isC isR : List Nat) (hC : isC.map (fun i => X[i]?) = Xc.map some) (hR : isR.map (fun i => X[i]?) = wr.map some) (hnC : va_nd isC = true) (hn : va_nd isR = true) (hdis : ∀ i ∈ isR, i ∉ isC) (hI : zI D tc A s.heap X L κ g H locs) (hr : va_Run p l e R s m args below meth c H locs cells slots mc ms (F0 m pc ls st0) rest (va_Qv post (fun (u : S) (t : State) => zB D tc (zA Xc L H.size) (rxf u) (sel u) t) (zA Xc L H.size) a0) (zA Xc L H.size))
    (kk : ∀ (u : S) (H1 : Heap) (locs1 : List Loc), post u → zI D tc A s.heap (wr ++ rxf u) (sel u).1 (sel u).2.1 (sel u).2.2 H1 locs1 → W p l e R s m args below meth c H1 locs1 (cells + mc) (slots + ms) Q (F0 m (pc + 3) ls rest)) : W p l e R s m args below meth c H locs cells slots Q (F0 m pc ls st0) :=
  va_callv hr hI.2.1 (fun q _ h => z_sub hI isC hnC hC q h) (z_sub hI isC hnC hC) (fun u t H1 locs1 ht hvm hw hB hz1 hk1 hS1 => kk u H1 locs1 hw (z_backX hI isC isR hC hR hnC hn hdis hk1 ht hB hS1))
theorem z_xiX {post : Int32 → zS → Prop} {Xc wr rx : va_W} (isC isR : List Nat) (hC : isC.map (fun i => X[i]?) = Xc.map some) (hR : isR.map (fun i => X[i]?) = wr.map some) (hnC : va_nd isC = true) (hn : va_nd isR = true) (hdis : ∀ i ∈ isR, i ∉ isC) (hI : zI D tc A s.heap X L κ g H locs)
    (hr : vx_Run p l e R s m args below meth c H locs cells slots mc ms (F0 m pc ls st0) rest (va_Qi post (fun (u : zS) (t : State) => zB D tc (zA Xc L H.size) rx u t) (zA Xc L H.size) a0) (vx_X (fun u : zS => True) (fun (E : String) (u : zS) (t : State) => (False) ∧ zB D tc (zA Xc L H.size) rx u t) (zA Xc L H.size)) (zA Xc L H.size))
    (kk : ∀ (r : Int32) (u : zS) (H1 : Heap) (locs1 : List Loc), post r u → zI D tc A s.heap (wr ++ rx) u.1 u.2.1 u.2.2 H1 locs1 → W p l e R s m args below meth c H1 locs1 (cells + mc) (slots + ms) Q (F0 m (pc + 3) ls (.int r :: rest))) : W p l e R s m args below meth c H locs cells slots Q (F0 m pc ls st0) :=
  vx_calli hr hI.2.1 (fun q _ h => z_sub hI isC hnC hC q h) (z_sub hI isC hnC hC) (fun q _ h => z_sub hI isC hnC hC q h)
    (fun E ce q9 u t H1 locs1 ht hvm hpx hbx hz hk hS1 h1 h2 h3 => hbx.1.elim)
    (fun r u t H1 locs1 ht hvm hw hB hz1 hk1 hS1 => kk r u H1 locs1 hw (z_backX hI isC isR hC hR hnC hn hdis hk1 ht hB hS1))
end ZEXACT
