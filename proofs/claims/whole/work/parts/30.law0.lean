/-! Methods with handlers; the script -/
theorem Ct.ofH {l : Launch} {D : gD} {s0 : State} {y : MethodName} {cc : ByteArray} {maxL : Nat} {ret : Option FieldType} {hh : List (Nat × Nat × Nat × Nat)} {rm : Room} {as : List Value} {M : gH} {F : gR → gH → Prop} (h0 : g_0 l D s0) (hy : plainFor y = true) (hn : Nat.ble (lg_sl as).length maxL = true)
    (body : ∀ X : Program × Launch × Env × Room × State × MethodId × Array Value × List Frame × Method × Code, X.2.1 = l → gF (gzz D s0 X rm F maxL) cc y.cls ret (tableOf hh) y.name → G (gzz D s0 X rm F maxL) 0 (lv_args 0 as) [] M 0 0) : Ct l D s0 y (Cond.codeWith y cc maxL ret hh) rm as M F := by
  refine MetFree.of_bodySF (code := cc) (maxLocals := maxL) (ret := ret) hy ?_ ?_
  · intro args s m h hn
    obtain ⟨m9, meth, c, hn9, h1, h2, h3, h4, -, h5, h6, -⟩ := Cond.codeWith_spec (atoms_spec (ws := [Cond.codeWith y cc maxL ret hh]) h _ List.mem_cons_self)
    cases hn.symm.trans hn9
    exact ⟨meth, c, h1, h2, h3, h4, h5, h6⟩
  · intro p e s m args below meth c s₁ B hml hv _
    have hh0 : s₁.heap = s.heap := by rw [B.state]; rfl
    have htab : c.exceptionTable.toList = tableOf hh := vx_table (x := y) B (atoms_spec (ws := [Cond.codeWith y cc maxL ret hh]) B.pre _ List.mem_cons_self)
    obtain ⟨rfl, hP, hS, hN, hW⟩ := hv
    have hl := lv_entry as (n := maxL) (Nat.le_of_ble_eq_true hn)
    have K := body (p, l, e, rm, s, m, as.toArray, below, meth, c) rfl ⟨B.exec, B.bytes, hml, B.returns, B.notSynchronized, findClass_of_methodNamed B.named, htab, (name_of_methodNamed B.named B.method).1, rfl, h0, hW, hS⟩ s.heap [] _ hP hS hN (fun _ h => by cases h) hl
    rw [← lg_entry_eq] at K
    obtain ⟨t, a1, o, b1, b2, b3⟩ := K s₁ hh0 (Stand.of_body B)
    exact ⟨t, o, a1, b1, b2, b3⟩
/-- thrown at pc, an object of the class E -/
def GT (Z : gZ) (pc : Nat) (ls : List (Nat × Value)) (E : String) (M : gH) (cl sl : Nat) : Prop := match Z with
  | ((D, s0), (p, l, e, R, s, m, args, below, meth, c), (mc, ms, _, _), F, nL) => ∀ (H : Heap) (locs : List Loc) (arr : Array Slot) (q : Addr) (ce : Cell) (rest : List Value), g_P D M H → g_S s0 H → g_N s0 M → (∀ z ∈ locs, s0.heap.size ≤ z.base) → lv_has arr nL ls → H[q]? = some ce → ce.vm = .none → s.vm.findClass E = some ce.cls →
      vx_W p l e R s m args below meth c H locs cl sl (vx_MQ below (gQ D s0 F) (gX D s0 F) args s mc ms (fun q => s0.heap.size ≤ q)) (F0 m pc arr rest) q
def gNC (E nm : String) : Prop := ∀ (a0 : Array Value) (s0 : State), (Jvm.Cond.and given_1 narrow_1).before a0 s0 = true → (Cond.not (.castable E nm)).before a0 s0 = true
section GL
variable {D : gD} {s0 : State} {p : Program} {l : Launch} {e : Env} {R : Room} {s : State} {m : MethodId} {args : Array Value} {below : List Frame} {meth : Method} {c : Code} {mc ms fr lo nL : Nat} {F : gR → gH → Prop}
variable {cc : ByteArray} {own nm : String} {ret : Option FieldType} {tb : List ExceptionTableEntry} {pc cl sl : Nat} {ls : List (Nat × Value)} {st : List Value} {M : gH}
theorem ri_catch (h : gF ((D, s0), (p, l, e, R, s, m, args, below, meth, c), (mc, ms, fr, lo), F, nL) cc own ret tb nm) (pre : List ExceptionTableEntry) (x : ExceptionTableEntry) (suf : List ExceptionTableEntry) {E : String} (hs : tb = pre ++ x :: suf) (hp : ∀ z ∈ pre, z.catchType ≠ 0 ∧ ∃ n9, Cond.classLink own z.catchType n9 ∈ lw_tbl ∧ gNC E n9) (hcv : covers x pc = true) (hc0 : x.catchType ≠ 0) (hw : Cond.classLink own x.catchType E ∈ lw_tbl) (hca : Cond.castable E E ∈ lw_tbl)
    (k : ∀ q : Nat, G ((D, s0), (p, l, e, R, s, m, args, below, meth, c), (mc, ms, fr, lo), F, nL) x.handlerPc ls [.ref q] M cl sl) : GT ((D, s0), (p, l, e, R, s, m, args, below, meth, c), (mc, ms, fr, lo), F, nL) pc ls E M cl sl := by
  obtain ⟨hx, hb, hml, hr, hlk, hown, htb, hnm, hR, h0, hW, hsh⟩ := h
  intro H locs arr q ce rest hP hS hN hL hl hq hv hcl
  refine vx_catch hown pre x suf (htb.trans hs) (fun z hz => Or.inr ?_) hcv hc0 (g_w h0 hW hw rfl) (g_wn h0 hW hca rfl) hq hv hcl (k q H locs arr hP hS hN hL hl)
  obtain ⟨hz0, n9, w9, nc9⟩ := hp z hz
  obtain ⟨-, -, a0, ha, hg⟩ := id h0
  exact ⟨hz0, n9, g_w h0 hW w9 rfl, va_Nc.moved hW.alike (va_Nc.of (nc9 a0 s0 hg))⟩
theorem ri_callVT (h : gF ((D, s0), (p, l, e, R, s, m, args, below, meth, c), (mc, ms, fr, lo), F, nL) cc own ret tb nm) {i b ci n maxL : Nat} {fs : List Value} {y : MethodName} {bytes : ByteArray} {rt : Option FieldType} {rm : Room} {F' : gR → gH → Prop} (As rest : List Value) {r : vw_C}
    (d : decode cc pc = .ok (.invokevirtual i, 3)) (cw : gCV own i y bytes maxL rt n r.1) (hM : M b = some (.inr (ci, fs))) (hr : gcl[ci]? = some r) (hst : As.reverse ++ .ref b :: rest = st) (hn : As.length = n) (hw8 : (rest.map fun v => v.category).sum ≤ 8) (hfr : rm.frames + 1 ≤ fr) (hlo : 8 + (maxL + 11) + rm.locals ≤ lo) (hcm : cl + rm.cells ≤ mc) (hsm : sl + rm.slots ≤ ms)
    (ct : Ct l D s0 y (Cond.code y bytes maxL rt) rm (.ref b :: As) M F')
    (kx : ∀ E M', F' (.inr E) M' → GT ((D, s0), (p, l, e, R, s, m, args, below, meth, c), (mc, ms, fr, lo), F, nL) pc ls E M' (cl + rm.cells) (sl + rm.slots))
    (kv : ∀ v M', F' (.inl v) M' → G ((D, s0), (p, l, e, R, s, m, args, below, meth, c), (mc, ms, fr, lo), F, nL) (pc + 3) ls (v.toList ++ rest) M' (cl + rm.cells) (sl + rm.slots)) :
    G ((D, s0), (p, l, e, R, s, m, args, below, meth, c), (mc, ms, fr, lo), F, nL) pc ls st M cl sl := by
  intro H locs arr hP hS hN hL hl
  obtain ⟨hx, hb, hml, hrt, hlk, hown, htb, hnm, hR, h0, hW, hsh⟩ := id h
  obtain ⟨⟨w1, w2, w3, w4, w5⟩, w6, w7, w8⟩ := cw
  subst hR
  have hrun := vx_runV (args := args) (H := H) (cells := cl) (slots := sl) (locs := locs) (meth := meth) (e := e) (below := below) (g := F0 m pc arr st) (Ts := []) (rest := rest) (R := { frames := fr, cells := mc, slots := ms, locals := lo }) ⟨hx, hb, hml, hown, fun _ h => by cases h⟩ ct ⟨⟨rfl, rfl, hfr, hlo, g_code h0 hW w1, List.mem_cons_self, g_w h0 hW w1 rfl, g_w h0 hW w2 rfl, ⟨w3, w4⟩, g_sig w5, g_w h0 hW w6 rfl⟩, g_w h0 hW w7 rfl, g_w h0 hW w8 rfl⟩ ⟨gPc_blind _ _ _ _, g_recv (h0.2.1.moved hW.alike) hP hM hr, g_pre hW hP hS hN⟩ rfl hn hl.1 hst.symm (lv_room hw8) d ⟨hcm, hsm⟩
  intro T hT X
  rcases hrun T hT X with ⟨v, st₀, t, T', L, e0, X', hL', e1, e2, ⟨v', M', hv, hF, hP', hS', hN'⟩, go⟩ | ⟨q, st₀, t, T', L, E, ce, e0, X', hL', e1, e2, ⟨M', hF, hP', hS', hN'⟩, hce, hcv, hcl, go⟩
  · cases hv
    obtain ⟨t2, a1, b1⟩ := kv v M' hF T'.heap (locs ++ L) arr (by rw [e1]; exact hP') (by rw [e1]; exact hS') hN' (g_L.app hL hL') hl T' rfl X'
    exact ⟨t2, go t2 a1, b1⟩
  · obtain ⟨t2, a1, b1⟩ := kx E M' hF T'.heap (locs ++ L) arr q ce rest (by rw [e1]; exact hP') (by rw [e1]; exact hS') hN' (g_L.app hL hL') hl (by rw [e1]; exact hce) hcv hcl T' rfl X'
    exact ⟨t2, go.trans a1, b1⟩
/-- words of a static call of a method with handlers -/
def gCX (own : String) (i : Nat) (y : MethodName) (bytes : ByteArray) (maxL : Nat) (rt : Option FieldType) (hh : List (Nat × Nat × Nat × Nat)) (n : Nat) : Prop :=
  Cond.codeWith y bytes maxL rt hh ∈ lw_tbl ∧ Cond.initialized y.cls ∈ lw_tbl ∧ (y.cls ≠ "java/lang/invoke/MethodHandle" ∧ y.cls ≠ "java/lang/invoke/VarHandle" ∧ (parseMethodDescriptor y.desc).map (fun d => d.parameters.length) = some n) ∧ Cond.methodLink own i y ∈ lw_tbl ∧ Cond.static y ∈ lw_tbl
theorem ri_callSX (h : gF ((D, s0), (p, l, e, R, s, m, args, below, meth, c), (mc, ms, fr, lo), F, nL) cc own ret [] nm) {i n maxL : Nat} {y : MethodName} {bytes : ByteArray} {rt : Option FieldType} {hh : List (Nat × Nat × Nat × Nat)} {rm : Room} {F' : gR → gH → Prop} (As rest : List Value)
    (d : decode cc pc = .ok (.invokestatic i, 3)) (cw : gCX own i y bytes maxL rt hh n) (hst : As.reverse ++ rest = st) (hn : As.length = n) (hw8 : (rest.map fun v => v.category).sum ≤ 8) (hfr : rm.frames + 1 ≤ fr) (hlo : 8 + (maxL + 11) + rm.locals ≤ lo) (hcm : cl + rm.cells ≤ mc) (hsm : sl + rm.slots ≤ ms)
    (ct : Ct l D s0 y (Cond.codeWith y bytes maxL rt hh) rm As M F') (kx : ∀ E M', F' (.inr E) M' → F (.inr E) M')
    (kv : ∀ v M', F' (.inl v) M' → G ((D, s0), (p, l, e, R, s, m, args, below, meth, c), (mc, ms, fr, lo), F, nL) (pc + 3) ls (v.toList ++ rest) M' (cl + rm.cells) (sl + rm.slots)) :
    G ((D, s0), (p, l, e, R, s, m, args, below, meth, c), (mc, ms, fr, lo), F, nL) pc ls st M cl sl := by
  intro H locs arr hP hS hN hL hl
  obtain ⟨hx, hb, hml, hrt, hlk, hown, htb, hnm, hR, h0, hW, hsh⟩ := id h
  obtain ⟨w1, w2, ⟨w3, w4, w5⟩, w6, w7⟩ := cw
  subst hR
  refine gRunX h (vx_runSX (Ts := []) (rest := rest) ⟨hx, hb, hml, hown, fun _ h => by cases h⟩ ct ⟨⟨rfl, rfl, hfr, hlo, fun w hw a' U hU => by rw [List.mem_singleton.mp hw]; exact g_w h0 (State.WarmedH.trans hW hU) w1 rfl, List.mem_cons_self⟩, g_w h0 hW w1 rfl, g_w h0 hW w2 rfl, ⟨w3, w4⟩, g_sig w5, g_w h0 hW w6 rfl, g_w h0 hW w7 rfl⟩ ⟨gPc_blind _ _ _ _, g_pre hW hP hS hN⟩ rfl hn hl.1 hst.symm (lv_room hw8) d ⟨hcm, hsm⟩) hL hl hcm hsm kx kv
/-- the script -/
theorem ri_sld (h : gF ((D, s0), (p, l, e, R, s, m, args, below, meth, c), (mc, ms, fr, lo), F, nL) cc own ret tb nm) {b L : Nat} {xs : Nat → Int32} {x : Int32} (j : Nat) (d : decode cc pc = .ok (.iaload, 1)) (hX : va_X b L xs s0 s0.heap) (hx0 : x = nI j) (hj : j < L) (hn : L < 2147483648)
    (k : G ((D, s0), (p, l, e, R, s, m, args, below, meth, c), (mc, ms, fr, lo), F, nL) (pc + 1) ls (.int (xs j) :: st) M cl sl) : G ((D, s0), (p, l, e, R, s, m, args, below, meth, c), (mc, ms, fr, lo), F, nL) pc ls (.int x :: .ref b :: st) M cl sl := by
  obtain ⟨hx, hb, hml, hr, hlk, hown, htb, hnm, hR, h0, hW, hsh⟩ := h
  intro H locs arr hP hS hN hL hl
  subst hx0
  obtain ⟨scr, q1, q2, q3, q4, q5⟩ := va_X.moved hW.alike hX
  have hcl : (nI j).toNatClampNeg = j := nI_clamp (by omega)
  exact W.iald hx hb (show H[b]? = some scr by rw [hS.2 b (Array.getElem?_eq_some_iff.mp q1).1]; exact q1) q2 q3 (by rw [q4]; exact g_in hj hn) (v := .int (xs j)) (by rw [hcl]; exact q5 j hj) rfl rfl d (k H locs arr hP hS hN hL hl)
theorem ri_slen (h : gF ((D, s0), (p, l, e, R, s, m, args, below, meth, c), (mc, ms, fr, lo), F, nL) cc own ret tb nm) {b L : Nat} {xs : Nat → Int32} (d : decode cc pc = .ok (.arraylength, 1)) (hX : va_X b L xs s0 s0.heap)
    (k : G ((D, s0), (p, l, e, R, s, m, args, below, meth, c), (mc, ms, fr, lo), F, nL) (pc + 1) ls (.int (nI L) :: st) M cl sl) : G ((D, s0), (p, l, e, R, s, m, args, below, meth, c), (mc, ms, fr, lo), F, nL) pc ls (.ref b :: st) M cl sl := by
  obtain ⟨hx, hb, hml, hr, hlk, hown, htb, hnm, hR, h0, hW, hsh⟩ := h
  intro H locs arr hP hS hN hL hl
  obtain ⟨scr, q1, q2, q3, q4, q5⟩ := va_X.moved hW.alike hX
  exact W.alen (n := nI L) hx hb (show H[b]? = some scr by rw [hS.2 b (Array.getElem?_eq_some_iff.mp q1).1]; exact q1) q2 (by rw [q4]; rfl) rfl rfl d (k H locs arr hP hS hN hL hl)
end GL
