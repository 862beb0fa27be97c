/-! calls whose contract names the answer and the heap behind it -/
def fR (v : Option Value) (M0 : gH) : gR → gH → Prop := fun r M' => r = .inl v ∧ M' = M0
theorem fR_x {v : Option Value} {M0 : gH} : ∀ E M', ¬ fR v M0 (.inr E) M' := fun _ _ h => by cases h.1
abbrev rk (d c s : Nat) : Room := { frames := 8 * d, cells := c, slots := s, locals := 200 * d }
theorem gne {M : gH} {a b : Nat} {x y : gE} (ha : M a = some x) (hb : M b = some y) (h : x ≠ y) : a ≠ b := by
  intro e
  subst e
  exact h (Option.some.inj (ha.symm.trans hb))
theorem gneN {M : gH} {a b : Nat} {x : gE} (ha : M a = some x) (hb : M b = none) : a ≠ b := by
  intro e
  subst e
  rw [hb] at ha
  cases ha
theorem gneC {M : gH} {a b c1 c2 : Nat} {f1 f2 : List Value} (ha : M a = some (.inr (c1, f1))) (hb : M b = some (.inr (c2, f2))) (h : c1 ≠ c2) : a ≠ b := gne ha hb (fun e => h (by injection e with e; injection e))
theorem gneA {M : gH} {a b c2 : Nat} {x : Nat × Nat × (Nat → Value)} {f2 : List Value} (ha : M a = some (.inl x)) (hb : M b = some (.inr (c2, f2))) : a ≠ b := gne ha hb (fun e => by cases e)
theorem gneK {M : gH} {a b k1 k2 n1 n2 : Nat} {f1 f2 : Nat → Value} (ha : M a = some (.inl (k1, n1, f1))) (hb : M b = some (.inl (k2, n2, f2))) (h : k1 ≠ k2) : a ≠ b := gne ha hb (fun e => h (by injection e with e; injection e))
section GU
variable {D : gD} {s0 : State} {p : Program} {l : Launch} {e : Env} {R : Room} {s : State} {m : MethodId} {args : Array Value} {below : List Frame} {meth : Method} {c : Code} {mc ms fr lo nL : Nat} {F : gR → gH → Prop}
variable {cc : ByteArray} {own nm : String} {ret : Option FieldType} {tb : List ExceptionTableEntry} {pc cl sl : Nat} {ls : List (Nat × Value)} {st : List Value} {M : gH}
theorem ri_lshr (h : gF ((D, s0), (p, l, e, R, s, m, args, below, meth, c), (mc, ms, fr, lo), F, nL) cc own ret tb nm) {x : Int64} {y : Int32} (d : decode cc pc = .ok (.lshr, 1)) (k : G ((D, s0), (p, l, e, R, s, m, args, below, meth, c), (mc, ms, fr, lo), F, nL) (pc + 1) ls (.long (x >>> (y.toInt64 &&& 63)) :: st) M cl sl) : G ((D, s0), (p, l, e, R, s, m, args, below, meth, c), (mc, ms, fr, lo), F, nL) pc ls (.int y :: .long x :: st) M cl sl := by
  obtain ⟨hx, hb, -⟩ := h
  intro H locs arr hP hS hN hL hl
  exact lv_lshr hx hb d rfl (k H locs arr hP hS hN hL hl)
theorem ri_l2i (h : gF ((D, s0), (p, l, e, R, s, m, args, below, meth, c), (mc, ms, fr, lo), F, nL) cc own ret tb nm) {x : Int64} (d : decode cc pc = .ok (.l2i, 1)) (k : G ((D, s0), (p, l, e, R, s, m, args, below, meth, c), (mc, ms, fr, lo), F, nL) (pc + 1) ls (.int x.toInt32 :: st) M cl sl) : G ((D, s0), (p, l, e, R, s, m, args, below, meth, c), (mc, ms, fr, lo), F, nL) pc ls (.long x :: st) M cl sl := by
  obtain ⟨hx, hb, -⟩ := h
  intro H locs arr hP hS hN hL hl
  exact lv_l2i hx hb d rfl (k H locs arr hP hS hN hL hl)
theorem ri_cVv (h : gF ((D, s0), (p, l, e, R, s, m, args, below, meth, c), (mc, ms, fr, lo), F, nL) cc own ret [] nm) {i n maxL : Nat} {y : MethodName} {bytes : ByteArray} {rm : Room} {M0 : gH} {rt : Option FieldType} {w : Value} {b ci : Nat} {fs : List Value} {r : vw_C} (As rest : List Value) (d : decode cc pc = .ok (.invokevirtual i, 3)) (cw : gCV own i y bytes maxL rt n r.1) (hM : M b = some (.inr (ci, fs))) (hr : gcl[ci]? = some r) (ct : Ct l D s0 y (Cond.code y bytes maxL rt) rm (.ref b :: As) M (fR (some w) M0)) (hst : As.reverse ++ .ref b :: rest = st) (hn : As.length = n) (hw8 : (rest.map fun v => v.category).sum ≤ 8) (hfr : rm.frames + 1 ≤ fr) (hlo : 8 + (maxL + 11) + rm.locals ≤ lo) (hcm : cl + rm.cells ≤ mc) (hsm : sl + rm.slots ≤ ms)
    (k : G ((D, s0), (p, l, e, R, s, m, args, below, meth, c), (mc, ms, fr, lo), F, nL) (pc + 3) ls (w :: rest) M0 (cl + rm.cells) (sl + rm.slots)) : G ((D, s0), (p, l, e, R, s, m, args, below, meth, c), (mc, ms, fr, lo), F, nL) pc ls st M cl sl := by
  refine ri_callV h As rest d cw hM hr hst hn hw8 hfr hlo hcm hsm ct (fun _ _ h9 => absurd h9 (fR_x _ _)) (fun v9 M9 h9 => ?_)
  obtain ⟨e1, rfl⟩ := h9
  cases e1
  exact k
theorem ri_cV0 (h : gF ((D, s0), (p, l, e, R, s, m, args, below, meth, c), (mc, ms, fr, lo), F, nL) cc own ret [] nm) {i n maxL : Nat} {y : MethodName} {bytes : ByteArray} {rm : Room} {M0 : gH} {rt : Option FieldType} {b ci : Nat} {fs : List Value} {r : vw_C} (As rest : List Value) (d : decode cc pc = .ok (.invokevirtual i, 3)) (cw : gCV own i y bytes maxL rt n r.1) (hM : M b = some (.inr (ci, fs))) (hr : gcl[ci]? = some r) (ct : Ct l D s0 y (Cond.code y bytes maxL rt) rm (.ref b :: As) M (fR none M0)) (hst : As.reverse ++ .ref b :: rest = st) (hn : As.length = n) (hw8 : (rest.map fun v => v.category).sum ≤ 8) (hfr : rm.frames + 1 ≤ fr) (hlo : 8 + (maxL + 11) + rm.locals ≤ lo) (hcm : cl + rm.cells ≤ mc) (hsm : sl + rm.slots ≤ ms)
    (k : G ((D, s0), (p, l, e, R, s, m, args, below, meth, c), (mc, ms, fr, lo), F, nL) (pc + 3) ls (rest) M0 (cl + rm.cells) (sl + rm.slots)) : G ((D, s0), (p, l, e, R, s, m, args, below, meth, c), (mc, ms, fr, lo), F, nL) pc ls st M cl sl := by
  refine ri_callV h As rest d cw hM hr hst hn hw8 hfr hlo hcm hsm ct (fun _ _ h9 => absurd h9 (fR_x _ _)) (fun v9 M9 h9 => ?_)
  obtain ⟨e1, rfl⟩ := h9
  cases e1
  exact k
theorem ri_cSv (h : gF ((D, s0), (p, l, e, R, s, m, args, below, meth, c), (mc, ms, fr, lo), F, nL) cc own ret [] nm) {i n maxL : Nat} {y : MethodName} {bytes : ByteArray} {rm : Room} {M0 : gH} {rt : Option FieldType} {w : Value} (As rest : List Value) (d : decode cc pc = .ok (.invokestatic i, 3)) (cw : gCS own i y bytes maxL rt n) (ct : Ct l D s0 y (Cond.code y bytes maxL rt) rm As M (fR (some w) M0)) (hst : As.reverse ++ rest = st) (hn : As.length = n) (hw8 : (rest.map fun v => v.category).sum ≤ 8) (hfr : rm.frames + 1 ≤ fr) (hlo : 8 + (maxL + 11) + rm.locals ≤ lo) (hcm : cl + rm.cells ≤ mc) (hsm : sl + rm.slots ≤ ms)
    (k : G ((D, s0), (p, l, e, R, s, m, args, below, meth, c), (mc, ms, fr, lo), F, nL) (pc + 3) ls (w :: rest) M0 (cl + rm.cells) (sl + rm.slots)) : G ((D, s0), (p, l, e, R, s, m, args, below, meth, c), (mc, ms, fr, lo), F, nL) pc ls st M cl sl := by
  refine ri_callS h As rest d cw hst hn hw8 hfr hlo hcm hsm ct (fun _ _ h9 => absurd h9 (fR_x _ _)) (fun v9 M9 h9 => ?_)
  obtain ⟨e1, rfl⟩ := h9
  cases e1
  exact k
theorem ri_cS0 (h : gF ((D, s0), (p, l, e, R, s, m, args, below, meth, c), (mc, ms, fr, lo), F, nL) cc own ret [] nm) {i n maxL : Nat} {y : MethodName} {bytes : ByteArray} {rm : Room} {M0 : gH} {rt : Option FieldType} (As rest : List Value) (d : decode cc pc = .ok (.invokestatic i, 3)) (cw : gCS own i y bytes maxL rt n) (ct : Ct l D s0 y (Cond.code y bytes maxL rt) rm As M (fR none M0)) (hst : As.reverse ++ rest = st) (hn : As.length = n) (hw8 : (rest.map fun v => v.category).sum ≤ 8) (hfr : rm.frames + 1 ≤ fr) (hlo : 8 + (maxL + 11) + rm.locals ≤ lo) (hcm : cl + rm.cells ≤ mc) (hsm : sl + rm.slots ≤ ms)
    (k : G ((D, s0), (p, l, e, R, s, m, args, below, meth, c), (mc, ms, fr, lo), F, nL) (pc + 3) ls (rest) M0 (cl + rm.cells) (sl + rm.slots)) : G ((D, s0), (p, l, e, R, s, m, args, below, meth, c), (mc, ms, fr, lo), F, nL) pc ls st M cl sl := by
  refine ri_callS h As rest d cw hst hn hw8 hfr hlo hcm hsm ct (fun _ _ h9 => absurd h9 (fR_x _ _)) (fun v9 M9 h9 => ?_)
  obtain ⟨e1, rfl⟩ := h9
  cases e1
  exact k
theorem ri_cI0 (h : gF ((D, s0), (p, l, e, R, s, m, args, below, meth, c), (mc, ms, fr, lo), F, nL) cc own ret tb nm) {i n maxL : Nat} {y : MethodName} {bytes : ByteArray} {rm : Room} {M0 : gH} {b : Nat} (As rest : List Value) (d : decode cc pc = .ok (.invokespecial i, 3)) (cw : gCI own i y bytes maxL n) (ct : Ct l D s0 y (Cond.code y bytes maxL none) rm (.ref b :: As) M (fR none M0)) (hst : As.reverse ++ .ref b :: rest = st) (hn : As.length = n) (hw8 : (rest.map fun v => v.category).sum ≤ 8) (hfr : rm.frames + 1 ≤ fr) (hlo : 8 + (maxL + 11) + rm.locals ≤ lo) (hcm : cl + rm.cells ≤ mc) (hsm : sl + rm.slots ≤ ms)
    (k : G ((D, s0), (p, l, e, R, s, m, args, below, meth, c), (mc, ms, fr, lo), F, nL) (pc + 3) ls (rest) M0 (cl + rm.cells) (sl + rm.slots)) : G ((D, s0), (p, l, e, R, s, m, args, below, meth, c), (mc, ms, fr, lo), F, nL) pc ls st M cl sl := by
  refine ri_callI h As rest d cw hst hn hw8 hfr hlo hcm hsm ct fR_x (fun v9 M9 h9 => ?_)
  obtain ⟨e1, rfl⟩ := h9
  cases e1
  exact k
theorem ri_cVNv (h : gF ((D, s0), (p, l, e, R, s, m, args, below, meth, c), (mc, ms, fr, lo), F, nL) cc own ret tb nm) {i n maxL : Nat} {y : MethodName} {bytes : ByteArray} {rm : Room} {M0 : gH} {rt : Option FieldType} {w : Value} {b ci : Nat} {fs : List Value} {r : vw_C} {host : String} (As rest : List Value) (d : decode cc pc = .ok (.invokevirtual i, 3)) (cw : gNV own i y bytes maxL rt n r.1 host) (hM : M b = some (.inr (ci, fs))) (hr : gcl[ci]? = some r) (ct : Ct l D s0 y (Cond.code y bytes maxL rt) rm (.ref b :: As) M (fR (some w) M0)) (hst : As.reverse ++ .ref b :: rest = st) (hn : As.length = n) (hw8 : (rest.map fun v => v.category).sum ≤ 8) (hfr : rm.frames + 1 ≤ fr) (hlo : 8 + (maxL + 11) + rm.locals ≤ lo) (hcm : cl + rm.cells ≤ mc) (hsm : sl + rm.slots ≤ ms)
    (k : G ((D, s0), (p, l, e, R, s, m, args, below, meth, c), (mc, ms, fr, lo), F, nL) (pc + 3) ls (w :: rest) M0 (cl + rm.cells) (sl + rm.slots)) : G ((D, s0), (p, l, e, R, s, m, args, below, meth, c), (mc, ms, fr, lo), F, nL) pc ls st M cl sl := by
  refine ri_callVN h As rest d cw hM hr hst hn hw8 hfr hlo hcm hsm ct fR_x (fun v9 M9 h9 => ?_)
  obtain ⟨e1, rfl⟩ := h9
  cases e1
  exact k
theorem ri_cVN0 (h : gF ((D, s0), (p, l, e, R, s, m, args, below, meth, c), (mc, ms, fr, lo), F, nL) cc own ret tb nm) {i n maxL : Nat} {y : MethodName} {bytes : ByteArray} {rm : Room} {M0 : gH} {rt : Option FieldType} {b ci : Nat} {fs : List Value} {r : vw_C} {host : String} (As rest : List Value) (d : decode cc pc = .ok (.invokevirtual i, 3)) (cw : gNV own i y bytes maxL rt n r.1 host) (hM : M b = some (.inr (ci, fs))) (hr : gcl[ci]? = some r) (ct : Ct l D s0 y (Cond.code y bytes maxL rt) rm (.ref b :: As) M (fR none M0)) (hst : As.reverse ++ .ref b :: rest = st) (hn : As.length = n) (hw8 : (rest.map fun v => v.category).sum ≤ 8) (hfr : rm.frames + 1 ≤ fr) (hlo : 8 + (maxL + 11) + rm.locals ≤ lo) (hcm : cl + rm.cells ≤ mc) (hsm : sl + rm.slots ≤ ms)
    (k : G ((D, s0), (p, l, e, R, s, m, args, below, meth, c), (mc, ms, fr, lo), F, nL) (pc + 3) ls (rest) M0 (cl + rm.cells) (sl + rm.slots)) : G ((D, s0), (p, l, e, R, s, m, args, below, meth, c), (mc, ms, fr, lo), F, nL) pc ls st M cl sl := by
  refine ri_callVN h As rest d cw hM hr hst hn hw8 hfr hlo hcm hsm ct fR_x (fun v9 M9 h9 => ?_)
  obtain ⟨e1, rfl⟩ := h9
  cases e1
  exact k
theorem ri_cSNv (h : gF ((D, s0), (p, l, e, R, s, m, args, below, meth, c), (mc, ms, fr, lo), F, nL) cc own ret tb nm) {i n maxL : Nat} {y : MethodName} {bytes : ByteArray} {rm : Room} {M0 : gH} {rt : Option FieldType} {w : Value} {host : String} (As rest : List Value) (d : decode cc pc = .ok (.invokestatic i, 3)) (cw : gNS own i y bytes maxL rt n host) (ct : Ct l D s0 y (Cond.code y bytes maxL rt) rm As M (fR (some w) M0)) (hst : As.reverse ++ rest = st) (hn : As.length = n) (hw8 : (rest.map fun v => v.category).sum ≤ 8) (hfr : rm.frames + 1 ≤ fr) (hlo : 8 + (maxL + 11) + rm.locals ≤ lo) (hcm : cl + rm.cells ≤ mc) (hsm : sl + rm.slots ≤ ms)
    (k : G ((D, s0), (p, l, e, R, s, m, args, below, meth, c), (mc, ms, fr, lo), F, nL) (pc + 3) ls (w :: rest) M0 (cl + rm.cells) (sl + rm.slots)) : G ((D, s0), (p, l, e, R, s, m, args, below, meth, c), (mc, ms, fr, lo), F, nL) pc ls st M cl sl := by
  refine ri_callSN h As rest d cw hst hn hw8 hfr hlo hcm hsm ct fR_x (fun v9 M9 h9 => ?_)
  obtain ⟨e1, rfl⟩ := h9
  cases e1
  exact k
theorem ri_cSN0 (h : gF ((D, s0), (p, l, e, R, s, m, args, below, meth, c), (mc, ms, fr, lo), F, nL) cc own ret tb nm) {i n maxL : Nat} {y : MethodName} {bytes : ByteArray} {rm : Room} {M0 : gH} {rt : Option FieldType} {host : String} (As rest : List Value) (d : decode cc pc = .ok (.invokestatic i, 3)) (cw : gNS own i y bytes maxL rt n host) (ct : Ct l D s0 y (Cond.code y bytes maxL rt) rm As M (fR none M0)) (hst : As.reverse ++ rest = st) (hn : As.length = n) (hw8 : (rest.map fun v => v.category).sum ≤ 8) (hfr : rm.frames + 1 ≤ fr) (hlo : 8 + (maxL + 11) + rm.locals ≤ lo) (hcm : cl + rm.cells ≤ mc) (hsm : sl + rm.slots ≤ ms)
    (k : G ((D, s0), (p, l, e, R, s, m, args, below, meth, c), (mc, ms, fr, lo), F, nL) (pc + 3) ls (rest) M0 (cl + rm.cells) (sl + rm.slots)) : G ((D, s0), (p, l, e, R, s, m, args, below, meth, c), (mc, ms, fr, lo), F, nL) pc ls st M cl sl := by
  refine ri_callSN h As rest d cw hst hn hw8 hfr hlo hcm hsm ct fR_x (fun v9 M9 h9 => ?_)
  obtain ⟨e1, rfl⟩ := h9
  cases e1
  exact k
theorem ri_cIN0 (h : gF ((D, s0), (p, l, e, R, s, m, args, below, meth, c), (mc, ms, fr, lo), F, nL) cc own ret tb nm) {i n maxL : Nat} {y : MethodName} {bytes : ByteArray} {rm : Room} {M0 : gH} {b : Nat} {host : String} (As rest : List Value) (d : decode cc pc = .ok (.invokespecial i, 3)) (cw : gNI own i y bytes maxL n host) (ct : Ct l D s0 y (Cond.code y bytes maxL none) rm (.ref b :: As) M (fR none M0)) (hst : As.reverse ++ .ref b :: rest = st) (hn : As.length = n) (hw8 : (rest.map fun v => v.category).sum ≤ 8) (hfr : rm.frames + 1 ≤ fr) (hlo : 8 + (maxL + 11) + rm.locals ≤ lo) (hcm : cl + rm.cells ≤ mc) (hsm : sl + rm.slots ≤ ms)
    (k : G ((D, s0), (p, l, e, R, s, m, args, below, meth, c), (mc, ms, fr, lo), F, nL) (pc + 3) ls (rest) M0 (cl + rm.cells) (sl + rm.slots)) : G ((D, s0), (p, l, e, R, s, m, args, below, meth, c), (mc, ms, fr, lo), F, nL) pc ls st M cl sl := by
  refine ri_callIN h As rest d cw hst hn hw8 hfr hlo hcm hsm ct fR_x (fun v9 M9 h9 => ?_)
  obtain ⟨e1, rfl⟩ := h9
  cases e1
  exact k
end GU
