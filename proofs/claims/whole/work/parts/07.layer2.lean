/-! THE LAYER, 2: contracts, entry, calls, new cells, arrays. -/
def gPc (D : gD) (s0 : State) (as : List Value) (M : gH) : Array Value → State → Prop := fun a U => a = as.toArray ∧ g_P D M U.heap ∧ g_S s0 U.heap ∧ g_N s0 M ∧ s0.WarmedH U.vm
theorem gPc_blind (D : gD) (s0 : State) (as : List Value) (M : gH) : FrameBlind (gPc D s0 as M) := fun _ _ _ _ h => h
/-- a contract: from the ghost heap M with the arguments as, the method ends, and F says how -/
def Ct (l : Launch) (D : gD) (s0 : State) (y : MethodName) (w : Cond) (rm : Room) (as : List Value) (M : gH) (F : gR → gH → Prop) : Prop :=
  vx_Met l y [w] rm (gPc D s0 as M) (gQ D s0 F) (gX D s0 F) rm.cells rm.slots (fun q => s0.heap.size ≤ q)
abbrev gzz (D : gD) (s0 : State) (X : Program × Launch × Env × Room × State × MethodId × Array Value × List Frame × Method × Code) (rm : Room) (F : gR → gH → Prop) (nL : Nat) : gZ := ((D, s0), X, (rm.cells, rm.slots, rm.frames, rm.locals), F, nL)
theorem Ct.of {l : Launch} {D : gD} {s0 : State} {y : MethodName} {cc : ByteArray} {maxL : Nat} {ret : Option FieldType} {rm : Room} {as : List Value} {M : gH} {F : gR → gH → Prop} (h0 : g_0 l D s0) (hy : plainFor y = true) (hn : Nat.ble (lg_sl as).length maxL = true)
    (body : ∀ X : Program × Launch × Env × Room × State × MethodId × Array Value × List Frame × Method × Code, X.2.1 = l → gF (gzz D s0 X rm F maxL) cc y.cls ret [] y.name → G (gzz D s0 X rm F maxL) 0 (lv_args 0 as) [] M 0 0) : Ct l D s0 y (Cond.code y cc maxL ret) rm as M F := by
  refine MetFree.of_bodySF (code := cc) (maxLocals := maxL) (ret := ret) hy ?_ ?_
  · intro args s m h hn
    obtain ⟨meth, c, h1, h2, h3, h4, h5, h6, -, -⟩ := Cond.code_spec hn (atoms_spec (ws := [Cond.code y cc maxL ret]) h _ List.mem_cons_self)
    exact ⟨meth, c, h1, h2, h3, h4, h5, h6⟩
  · intro p e s m args below meth c s₁ B hml hv _
    have hh0 : s₁.heap = s.heap := by rw [B.state]; rfl
    have htab : c.exceptionTable.toList = [] := by
      have hw := BodyLoose.noHandlers B (atoms_spec (ws := [Cond.code y cc maxL ret]) B.pre _ List.mem_cons_self)
      rw [Array.isEmpty_iff.mp hw]
    obtain ⟨rfl, hP, hS, hN, hW⟩ := hv
    have hl := lv_entry as (n := maxL) (Nat.le_of_ble_eq_true hn)
    have K := body (p, l, e, rm, s, m, as.toArray, below, meth, c) rfl ⟨B.exec, B.bytes, hml, B.returns, B.notSynchronized, findClass_of_methodNamed B.named, htab, (name_of_methodNamed B.named B.method).1, rfl, h0, hW, hS⟩ s.heap [] _ hP hS hN (fun _ h => by cases h) hl
    rw [← lg_entry_eq] at K
    obtain ⟨t, a1, o, b1, b2, b3⟩ := K s₁ hh0 (Stand.of_body B)
    exact ⟨t, o, a1, b1, b2, b3⟩
theorem Ct.met {l : Launch} {D : gD} {s0 : State} {y : MethodName} {w : Cond} {rm : Room} {as : List Value} {M : gH} {F : gR → gH → Prop} (h : Ct l D s0 y w rm as M F) (hx : ∀ E M', ¬ F (.inr E) M') : Met l y [w] rm (gPc D s0 as M) (gQ D s0 F) rm.cells rm.slots (fun q => s0.heap.size ≤ q) := by
  intro p e h1 h2 h3 s m args below h4 h5 h6 h7
  obtain ⟨n, o, a1, a2, a3, a4⟩ := h p e h1 h2 h3 s m args below h4 h5 h6 h7
  refine ⟨n, o, a1, a2, a3, ?_⟩
  rcases a4 with a4 | ⟨q, -, E, ce, L, ⟨M', hF, -⟩, -⟩
  · exact a4
  · exact absurd hF (hx E M')
theorem Ct.mono {l : Launch} {D : gD} {s0 : State} {y : MethodName} {w : Cond} {rm : Room} {as : List Value} {M : gH} {F F' : gR → gH → Prop} (h : Ct l D s0 y w rm as M F) (hF : ∀ r M', F r M' → F' r M') : Ct l D s0 y w rm as M F' := by
  intro p e h1 h2 h3 s m args below h4 h5 h6 h7
  obtain ⟨n, o, a1, a2, a3, a4⟩ := h p e h1 h2 h3 s m args below h4 h5 h6 h7
  refine ⟨n, o, a1, a2, a3, ?_⟩
  rcases a4 with ⟨⟨v, M', b1, b2, b3⟩, a4⟩ | ⟨q, b1, E, ce, L, ⟨M', b2, b3⟩, b4⟩
  · exact Or.inl ⟨⟨v, M', b1, hF _ _ b2, b3⟩, a4⟩
  · exact Or.inr ⟨q, b1, E, ce, L, ⟨M', hF _ _ b2, b3⟩, b4⟩
section GC
variable {D : gD} {s0 : State} {p : Program} {l : Launch} {e : Env} {R : Room} {s : State} {m : MethodId} {args : Array Value} {below : List Frame} {meth : Method} {c : Code} {mc ms fr lo nL : Nat} {F : gR → gH → Prop}
variable {cc : ByteArray} {own nm : String} {ret : Option FieldType} {tb : List ExceptionTableEntry} {pc cl sl : Nat} {ls : List (Nat × Value)} {st : List Value} {M : gH}
theorem g_L.app {s0 : State} {locs L : List Loc} (h : ∀ z ∈ locs, s0.heap.size ≤ z.base) (h2 : ∀ z ∈ L, s0.heap.size ≤ z.base) : ∀ z ∈ locs ++ L, s0.heap.size ≤ z.base := fun z hz => (List.mem_append.mp hz).elim (h z) (h2 z)
/-- behind a call that returns or throws, in a method without handlers -/
theorem gRunX {H : Heap} {locs : List Loc} {arr : Array Slot} {mc' ms' : Nat} {st0 rest : List Value} {a : Array Value} {F' : gR → gH → Prop} (h : gF ((D, s0), (p, l, e, R, s, m, args, below, meth, c), (mc, ms, fr, lo), F, nL) cc own ret [] nm)
    (hr : vx_Run p l e R s m args below meth c H locs cl sl mc' ms' (F0 m pc arr st0) rest (gQ D s0 F' a) (gX D s0 F') (fun q => s0.heap.size ≤ q)) (hL : ∀ z ∈ locs, s0.heap.size ≤ z.base) (hl : lv_has arr nL ls) (hcm : cl + mc' ≤ mc) (hsm : sl + ms' ≤ ms)
    (kx : ∀ E M', F' (.inr E) M' → F (.inr E) M')
    (kv : ∀ v M', F' (.inl v) M' → G ((D, s0), (p, l, e, R, s, m, args, below, meth, c), (mc, ms, fr, lo), F, nL) (pc + 3) ls (v.toList ++ rest) M' (cl + mc') (sl + ms')) :
    W p l e R s m args below meth c H locs cl sl (vx_MQ below (gQ D s0 F) (gX D s0 F) args s mc ms (fun q => s0.heap.size ≤ q)) (F0 m pc arr st0) := by
  obtain ⟨hx, hb, hml, hrt, hlk, hown, htb, hnm, hR, h0, hW, hsh⟩ := h
  intro T hT X
  rcases hr T hT X with ⟨v, st₀, t, T', L, e0, X', hL', e1, e2, ⟨v', M', hv, hF, hP', hS', hN'⟩, go⟩ | ⟨q, st₀, t, T', L, E, ce, e0, X', hL', e1, e2, ⟨M', hF, hP', hS', hN'⟩, hce, hcv, hcl, go⟩
  · cases hv
    obtain ⟨t2, a1, b1⟩ := kv v M' hF T'.heap (locs ++ L) arr (by rw [e1]; exact hP') (by rw [e1]; exact hS') hN' (g_L.app hL hL') hl T' rfl X'
    exact ⟨t2, go t2 a1, b1⟩
  · obtain ⟨t2, a1, b1⟩ := vx_out (Qc := gQ D s0 F) (XC := gX D s0 F) (free := fun q => s0.heap.size ≤ q) (pc := pc) (ls := arr) (rest := rest) (mc := mc) (ms := ms) (by rw [htb]; intro x hx; cases hx) hlk (by rw [e1]; exact hce) hcv hcl
      (fun t3 h3 _ => ⟨M', kx E M' hF, by rw [h3, e1]; exact hP', by rw [h3, e1]; exact hS', hN'⟩) (g_L.app hL hL') hcm hsm T' rfl X'
    exact ⟨t2, go.trans a1, b1⟩
theorem gRunV {H : Heap} {locs : List Loc} {arr : Array Slot} {mc' ms' : Nat} {st0 rest : List Value} {a : Array Value} {F' : gR → gH → Prop}
    (hr : va_Run p l e R s m args below meth c H locs cl sl mc' ms' (F0 m pc arr st0) rest (gQ D s0 F' a) (fun q => s0.heap.size ≤ q)) (hL : ∀ z ∈ locs, s0.heap.size ≤ z.base) (hl : lv_has arr nL ls)
    (kv : ∀ v M', F' (.inl v) M' → G ((D, s0), (p, l, e, R, s, m, args, below, meth, c), (mc, ms, fr, lo), F, nL) (pc + 3) ls (v.toList ++ rest) M' (cl + mc') (sl + ms')) :
    W p l e R s m args below meth c H locs cl sl (vx_MQ below (gQ D s0 F) (gX D s0 F) args s mc ms (fun q => s0.heap.size ≤ q)) (F0 m pc arr st0) := by
  intro T hT X
  obtain ⟨v, st₀, t, T', L, e0, X', hL', e1, e2, ⟨v', M', hv, hF, hP', hS', hN'⟩, go⟩ := hr T hT X
  cases hv
  obtain ⟨t2, a1, b1⟩ := kv v M' hF T'.heap (locs ++ L) arr (by rw [e1]; exact hP') (by rw [e1]; exact hS') hN' (g_L.app hL hL') hl T' rfl X'
  exact ⟨t2, go t2 a1, b1⟩
/-- the words of a call -/
def gCB (own : String) (i : Nat) (y : MethodName) (bytes : ByteArray) (maxL : Nat) (rt : Option FieldType) (n : Nat) : Prop :=
  Cond.code y bytes maxL rt ∈ lw_tbl ∧ Cond.initialized y.cls ∈ lw_tbl ∧ (y.cls ≠ "java/lang/invoke/MethodHandle" ∧ y.cls ≠ "java/lang/invoke/VarHandle" ∧ (parseMethodDescriptor y.desc).map (fun d => d.parameters.length) = some n)
def gCV (own : String) (i : Nat) (y : MethodName) (bytes : ByteArray) (maxL : Nat) (rt : Option FieldType) (n : Nat) (C : String) : Prop :=
  gCB own i y bytes maxL rt n ∧ Cond.methodLink own i y ∈ lw_tbl ∧ Cond.instanceMethod y ∈ lw_tbl ∧ Cond.selects C y y ∈ lw_tbl
def gCS (own : String) (i : Nat) (y : MethodName) (bytes : ByteArray) (maxL : Nat) (rt : Option FieldType) (n : Nat) : Prop :=
  gCB own i y bytes maxL rt n ∧ Cond.methodLink own i y ∈ lw_tbl ∧ Cond.static y ∈ lw_tbl
def gCI (own : String) (i : Nat) (y : MethodName) (bytes : ByteArray) (maxL : Nat) (n : Nat) : Prop :=
  gCB own i y bytes maxL none n ∧ Cond.methodLink own i y ∈ lw_tbl ∧ Cond.instanceMethod y ∈ lw_tbl ∧ y.name = "<init>"
def gNV (own : String) (i : Nat) (y : MethodName) (bytes : ByteArray) (maxL : Nat) (rt : Option FieldType) (n : Nat) (C host : String) : Prop :=
  gCB own i y bytes maxL rt n ∧ Cond.methodLinkNest own i y host ∈ lw_tbl ∧ Cond.instanceMethod y ∈ lw_tbl ∧ Cond.selects C y y ∈ lw_tbl
def gNS (own : String) (i : Nat) (y : MethodName) (bytes : ByteArray) (maxL : Nat) (rt : Option FieldType) (n : Nat) (host : String) : Prop :=
  gCB own i y bytes maxL rt n ∧ Cond.methodLinkNest own i y host ∈ lw_tbl ∧ Cond.static y ∈ lw_tbl
def gNI (own : String) (i : Nat) (y : MethodName) (bytes : ByteArray) (maxL : Nat) (n : Nat) (host : String) : Prop :=
  gCB own i y bytes maxL none n ∧ Cond.methodLinkNest own i y host ∈ lw_tbl ∧ Cond.instanceMethod y ∈ lw_tbl ∧ y.name = "<init>"
theorem g_code {y : MethodName} {bytes : ByteArray} {maxL : Nat} {rt : Option FieldType} (h0 : g_0 l D s0) (hW : s0.WarmedH s.vm) (hw : Cond.code y bytes maxL rt ∈ lw_tbl) : ∀ w ∈ [Cond.code y bytes maxL rt], ∀ (a' : Array Value) (U : State), s.WarmedH U.vm → w.before a' U = true := by
  intro w h a' U hU
  rw [List.mem_singleton.mp h]
  exact g_w h0 (State.WarmedH.trans hW hU) hw rfl
theorem g_sig {y : MethodName} {n : Nat} (h : (parseMethodDescriptor y.desc).map (fun d => d.parameters.length) = some n) : ∀ sig, parseMethodDescriptor y.desc = some sig → n = sig.parameters.length := by
  intro sig hs
  rw [hs] at h
  exact (Option.some.inj h).symm
theorem g_pre {as : List Value} {H : Heap} (hW : s0.WarmedH s.vm) (hP : g_P D M H) (hS : g_S s0 H) (hN : g_N s0 M) : ∀ U : State, U.heap = H → s.WarmedH U.vm → gPc D s0 as M as.toArray U := fun U hU hWU => ⟨rfl, by rw [hU]; exact hP, by rw [hU]; exact hS, hN, State.WarmedH.trans hW hWU⟩
theorem g_recv {H : Heap} {b ci : Nat} {fs : List Value} {r : vw_C} (hK : g_K D s) (hP : g_P D M H) (hM : M b = some (.inr (ci, fs))) (hr : gcl[ci]? = some r) : ∃ cellB : Cell, H[b]? = some cellB ∧ cellB.vm.isStatics = false ∧ s.vm.findClass r.1 = some cellB.cls := by
  obtain ⟨r', e1, e2, cell, q1, q2, q3, q4⟩ := hP b _ hM
  have hrr : r' = r := Option.some.inj (e1.symm.trans hr)
  subst hrr
  obtain ⟨-, hfc, -⟩ := hK.1.1 ci _ e1
  exact ⟨cell, q1, by rw [q3]; rfl, by rw [q2]; exact hfc⟩
theorem ri_callV (h : gF ((D, s0), (p, l, e, R, s, m, args, below, meth, c), (mc, ms, fr, lo), F, nL) cc own ret [] nm) {i b ci n maxL : Nat} {fs : List Value} {y : MethodName} {bytes : ByteArray} {rt : Option FieldType} {rm : Room} {F' : gR → gH → Prop} (As rest : List Value) {r : vw_C}
    (d : decode cc pc = .ok (.invokevirtual i, 3)) (cw : gCV own i y bytes maxL rt n r.1) (hM : M b = some (.inr (ci, fs))) (hr : gcl[ci]? = some r) (hst : As.reverse ++ .ref b :: rest = st) (hn : As.length = n) (hw8 : (rest.map fun v => v.category).sum ≤ 8) (hfr : rm.frames + 1 ≤ fr) (hlo : 8 + (maxL + 11) + rm.locals ≤ lo) (hcm : cl + rm.cells ≤ mc) (hsm : sl + rm.slots ≤ ms)
    (ct : Ct l D s0 y (Cond.code y bytes maxL rt) rm (.ref b :: As) M F') (kx : ∀ E M', F' (.inr E) M' → F (.inr E) M')
    (kv : ∀ v M', F' (.inl v) M' → G ((D, s0), (p, l, e, R, s, m, args, below, meth, c), (mc, ms, fr, lo), F, nL) (pc + 3) ls (v.toList ++ rest) M' (cl + rm.cells) (sl + rm.slots)) :
    G ((D, s0), (p, l, e, R, s, m, args, below, meth, c), (mc, ms, fr, lo), F, nL) pc ls st M cl sl := by
  intro H locs arr hP hS hN hL hl
  obtain ⟨hx, hb, hml, hrt, hlk, hown, htb, hnm, hR, h0, hW, hsh⟩ := id h
  obtain ⟨⟨w1, w2, w3, w4, w5⟩, w6, w7, w8⟩ := cw
  subst hR
  refine gRunX h (vx_runV (Ts := []) (rest := rest) ⟨hx, hb, hml, hown, fun _ h => by cases h⟩ ct ⟨⟨rfl, rfl, hfr, hlo, g_code h0 hW w1, List.mem_cons_self, g_w h0 hW w1 rfl, g_w h0 hW w2 rfl, ⟨w3, w4⟩, g_sig w5, g_w h0 hW w6 rfl⟩, g_w h0 hW w7 rfl, g_w h0 hW w8 rfl⟩ ⟨gPc_blind _ _ _ _, g_recv (h0.2.1.moved hW.alike) hP hM hr, g_pre hW hP hS hN⟩ rfl hn hl.1 hst.symm (lv_room hw8) d ⟨hcm, hsm⟩) hL hl hcm hsm kx kv
theorem ri_callS (h : gF ((D, s0), (p, l, e, R, s, m, args, below, meth, c), (mc, ms, fr, lo), F, nL) cc own ret [] nm) {i n maxL : Nat} {y : MethodName} {bytes : ByteArray} {rt : Option FieldType} {rm : Room} {F' : gR → gH → Prop} (As rest : List Value)
    (d : decode cc pc = .ok (.invokestatic i, 3)) (cw : gCS own i y bytes maxL rt n) (hst : As.reverse ++ rest = st) (hn : As.length = n) (hw8 : (rest.map fun v => v.category).sum ≤ 8) (hfr : rm.frames + 1 ≤ fr) (hlo : 8 + (maxL + 11) + rm.locals ≤ lo) (hcm : cl + rm.cells ≤ mc) (hsm : sl + rm.slots ≤ ms)
    (ct : Ct l D s0 y (Cond.code y bytes maxL rt) rm As M F') (kx : ∀ E M', F' (.inr E) M' → F (.inr E) M')
    (kv : ∀ v M', F' (.inl v) M' → G ((D, s0), (p, l, e, R, s, m, args, below, meth, c), (mc, ms, fr, lo), F, nL) (pc + 3) ls (v.toList ++ rest) M' (cl + rm.cells) (sl + rm.slots)) :
    G ((D, s0), (p, l, e, R, s, m, args, below, meth, c), (mc, ms, fr, lo), F, nL) pc ls st M cl sl := by
  intro H locs arr hP hS hN hL hl
  obtain ⟨hx, hb, hml, hrt, hlk, hown, htb, hnm, hR, h0, hW, hsh⟩ := id h
  obtain ⟨⟨w1, w2, w3, w4, w5⟩, w6, w7⟩ := cw
  subst hR
  refine gRunX h (vx_runS (Ts := []) (rest := rest) ⟨hx, hb, hml, hown, fun _ h => by cases h⟩ ct ⟨⟨rfl, rfl, hfr, hlo, g_code h0 hW w1, List.mem_cons_self, g_w h0 hW w1 rfl, g_w h0 hW w2 rfl, ⟨w3, w4⟩, g_sig w5, g_w h0 hW w6 rfl⟩, g_w h0 hW w7 rfl⟩ ⟨gPc_blind _ _ _ _, g_pre hW hP hS hN⟩ rfl hn hl.1 hst.symm (lv_room hw8) d ⟨hcm, hsm⟩) hL hl hcm hsm kx kv
theorem ri_callI (h : gF ((D, s0), (p, l, e, R, s, m, args, below, meth, c), (mc, ms, fr, lo), F, nL) cc own ret tb nm) {i b n maxL : Nat} {y : MethodName} {bytes : ByteArray} {rm : Room} {F' : gR → gH → Prop} (As rest : List Value)
    (d : decode cc pc = .ok (.invokespecial i, 3)) (cw : gCI own i y bytes maxL n) (hst : As.reverse ++ .ref b :: rest = st) (hn : As.length = n) (hw8 : (rest.map fun v => v.category).sum ≤ 8) (hfr : rm.frames + 1 ≤ fr) (hlo : 8 + (maxL + 11) + rm.locals ≤ lo) (hcm : cl + rm.cells ≤ mc) (hsm : sl + rm.slots ≤ ms)
    (ct : Ct l D s0 y (Cond.code y bytes maxL none) rm (.ref b :: As) M F') (kx : ∀ E M', ¬ F' (.inr E) M')
    (kv : ∀ v M', F' (.inl v) M' → G ((D, s0), (p, l, e, R, s, m, args, below, meth, c), (mc, ms, fr, lo), F, nL) (pc + 3) ls (v.toList ++ rest) M' (cl + rm.cells) (sl + rm.slots)) :
    G ((D, s0), (p, l, e, R, s, m, args, below, meth, c), (mc, ms, fr, lo), F, nL) pc ls st M cl sl := by
  intro H locs arr hP hS hN hL hl
  obtain ⟨hx, hb, hml, hrt, hlk, hown, htb, hnm, hR, h0, hW, hsh⟩ := id h
  obtain ⟨⟨w1, w2, w3, w4, w5⟩, w6, w7, w8⟩ := cw
  subst hR
  refine gRunV (va_runI (Ts := []) (rest := rest) ⟨hx, hb, hml, hown, fun _ h => by cases h⟩ (ct.met kx) ⟨⟨rfl, rfl, hfr, hlo, g_code h0 hW w1, List.mem_cons_self, g_w h0 hW w1 rfl, g_w h0 hW w2 rfl, ⟨w3, w4⟩, g_sig w5, g_w h0 hW w6 rfl⟩, w8, g_w h0 hW w7 rfl⟩ ⟨gPc_blind _ _ _ _, g_pre hW hP hS hN⟩ rfl hn hl.1 hst.symm (lv_room hw8) d ⟨hcm, hsm⟩) hL hl kv
theorem ri_callVN (h : gF ((D, s0), (p, l, e, R, s, m, args, below, meth, c), (mc, ms, fr, lo), F, nL) cc own ret tb nm) {i b ci n maxL : Nat} {fs : List Value} {y : MethodName} {bytes : ByteArray} {rt : Option FieldType} {rm : Room} {F' : gR → gH → Prop} {host : String} (As rest : List Value) {r : vw_C}
    (d : decode cc pc = .ok (.invokevirtual i, 3)) (cw : gNV own i y bytes maxL rt n r.1 host) (hM : M b = some (.inr (ci, fs))) (hr : gcl[ci]? = some r) (hst : As.reverse ++ .ref b :: rest = st) (hn : As.length = n) (hw8 : (rest.map fun v => v.category).sum ≤ 8) (hfr : rm.frames + 1 ≤ fr) (hlo : 8 + (maxL + 11) + rm.locals ≤ lo) (hcm : cl + rm.cells ≤ mc) (hsm : sl + rm.slots ≤ ms)
    (ct : Ct l D s0 y (Cond.code y bytes maxL rt) rm (.ref b :: As) M F') (kx : ∀ E M', ¬ F' (.inr E) M')
    (kv : ∀ v M', F' (.inl v) M' → G ((D, s0), (p, l, e, R, s, m, args, below, meth, c), (mc, ms, fr, lo), F, nL) (pc + 3) ls (v.toList ++ rest) M' (cl + rm.cells) (sl + rm.slots)) :
    G ((D, s0), (p, l, e, R, s, m, args, below, meth, c), (mc, ms, fr, lo), F, nL) pc ls st M cl sl := by
  intro H locs arr hP hS hN hL hl
  obtain ⟨hx, hb, hml, hrt, hlk, hown, htb, hnm, hR, h0, hW, hsh⟩ := id h
  obtain ⟨⟨w1, w2, w3, w4, w5⟩, w6, w7, w8⟩ := cw
  subst hR
  refine gRunV (va_runVN (Ts := []) (rest := rest) ⟨hx, hb, hml, hown, fun _ h => by cases h⟩ (ct.met kx) ⟨⟨⟨rfl, rfl, hfr, hlo, g_code h0 hW w1, List.mem_cons_self⟩, g_w h0 hW w1 rfl, g_w h0 hW w2 rfl, ⟨w3, w4⟩, g_sig w5, va_Nw.use rfl (g_wM h0 hW w6)⟩, g_w h0 hW w7 rfl, g_w h0 hW w8 rfl⟩ ⟨gPc_blind _ _ _ _, g_recv (h0.2.1.moved hW.alike) hP hM hr, g_pre hW hP hS hN⟩ rfl hn hl.1 hst.symm (lv_room hw8) d ⟨hcm, hsm⟩) hL hl kv
theorem ri_callSN (h : gF ((D, s0), (p, l, e, R, s, m, args, below, meth, c), (mc, ms, fr, lo), F, nL) cc own ret tb nm) {i n maxL : Nat} {y : MethodName} {bytes : ByteArray} {rt : Option FieldType} {rm : Room} {F' : gR → gH → Prop} {host : String} (As rest : List Value)
    (d : decode cc pc = .ok (.invokestatic i, 3)) (cw : gNS own i y bytes maxL rt n host) (hst : As.reverse ++ rest = st) (hn : As.length = n) (hw8 : (rest.map fun v => v.category).sum ≤ 8) (hfr : rm.frames + 1 ≤ fr) (hlo : 8 + (maxL + 11) + rm.locals ≤ lo) (hcm : cl + rm.cells ≤ mc) (hsm : sl + rm.slots ≤ ms)
    (ct : Ct l D s0 y (Cond.code y bytes maxL rt) rm As M F') (kx : ∀ E M', ¬ F' (.inr E) M')
    (kv : ∀ v M', F' (.inl v) M' → G ((D, s0), (p, l, e, R, s, m, args, below, meth, c), (mc, ms, fr, lo), F, nL) (pc + 3) ls (v.toList ++ rest) M' (cl + rm.cells) (sl + rm.slots)) :
    G ((D, s0), (p, l, e, R, s, m, args, below, meth, c), (mc, ms, fr, lo), F, nL) pc ls st M cl sl := by
  intro H locs arr hP hS hN hL hl
  obtain ⟨hx, hb, hml, hrt, hlk, hown, htb, hnm, hR, h0, hW, hsh⟩ := id h
  obtain ⟨⟨w1, w2, w3, w4, w5⟩, w6, w7⟩ := cw
  subst hR
  refine gRunV (va_runSN (Ts := []) (rest := rest) ⟨hx, hb, hml, hown, fun _ h => by cases h⟩ (ct.met kx) ⟨⟨⟨rfl, rfl, hfr, hlo, g_code h0 hW w1, List.mem_cons_self⟩, g_w h0 hW w1 rfl, g_w h0 hW w2 rfl, ⟨w3, w4⟩, g_sig w5, va_Nw.use rfl (g_wM h0 hW w6)⟩, g_w h0 hW w7 rfl, trivial⟩ ⟨gPc_blind _ _ _ _, g_pre hW hP hS hN⟩ rfl hn hl.1 hst.symm (lv_room hw8) d ⟨hcm, hsm⟩) hL hl kv
theorem ri_callIN (h : gF ((D, s0), (p, l, e, R, s, m, args, below, meth, c), (mc, ms, fr, lo), F, nL) cc own ret tb nm) {i b n maxL : Nat} {y : MethodName} {bytes : ByteArray} {rm : Room} {F' : gR → gH → Prop} {host : String} (As rest : List Value)
    (d : decode cc pc = .ok (.invokespecial i, 3)) (cw : gNI own i y bytes maxL n host) (hst : As.reverse ++ .ref b :: rest = st) (hn : As.length = n) (hw8 : (rest.map fun v => v.category).sum ≤ 8) (hfr : rm.frames + 1 ≤ fr) (hlo : 8 + (maxL + 11) + rm.locals ≤ lo) (hcm : cl + rm.cells ≤ mc) (hsm : sl + rm.slots ≤ ms)
    (ct : Ct l D s0 y (Cond.code y bytes maxL none) rm (.ref b :: As) M F') (kx : ∀ E M', ¬ F' (.inr E) M')
    (kv : ∀ v M', F' (.inl v) M' → G ((D, s0), (p, l, e, R, s, m, args, below, meth, c), (mc, ms, fr, lo), F, nL) (pc + 3) ls (v.toList ++ rest) M' (cl + rm.cells) (sl + rm.slots)) :
    G ((D, s0), (p, l, e, R, s, m, args, below, meth, c), (mc, ms, fr, lo), F, nL) pc ls st M cl sl := by
  intro H locs arr hP hS hN hL hl
  obtain ⟨hx, hb, hml, hrt, hlk, hown, htb, hnm, hR, h0, hW, hsh⟩ := id h
  obtain ⟨⟨w1, w2, w3, w4, w5⟩, w6, w7, w8⟩ := cw
  subst hR
  refine gRunV (va_runIN (Ts := []) (rest := rest) ⟨hx, hb, hml, hown, fun _ h => by cases h⟩ (ct.met kx) ⟨⟨⟨rfl, rfl, hfr, hlo, g_code h0 hW w1, List.mem_cons_self⟩, g_w h0 hW w1 rfl, g_w h0 hW w2 rfl, ⟨w3, w4⟩, g_sig w5, va_Nw.use rfl (g_wM h0 hW w6)⟩, w8, g_w h0 hW w7 rfl⟩ ⟨gPc_blind _ _ _ _, g_pre hW hP hS hN⟩ rfl hn hl.1 hst.symm (lv_room hw8) d ⟨hcm, hsm⟩) hL hl kv
end GC
