/-! THE LAYER, 5: references in arrays, statics, class objects, copies. -/
def gz (s0 : State) (z : Nat) : Prop := va_Z "java/util/ArrayList" "DEFAULTCAPACITY_EMPTY_ELEMENTDATA" "[Ljava/lang/Object;" (.ref z) (fun q => s0.heap.size ≤ q) s0 s0.heap ∧ ∃ cell : Cell, s0.heap[z]? = some cell ∧ s0.isArrayOf cell (.object "java/lang/Object") ∧ cell.slots.size.toInt32 = 0
section G5
variable {D : gD} {s0 : State} {p : Program} {l : Launch} {e : Env} {R : Room} {s : State} {m : MethodId} {args : Array Value} {below : List Frame} {meth : Method} {c : Code} {mc ms fr lo nL : Nat} {F : gR → gH → Prop}
variable {cc : ByteArray} {own nm : String} {ret : Option FieldType} {tb : List ExceptionTableEntry} {pc cl sl : Nat} {ls : List (Nat × Value)} {st : List Value} {M : gH}
theorem va_Z_moved {C n d : String} {v : Value} {A : Nat → Prop} {u U : State} {H : Heap} (hvm : u.vm.Alike U.vm) (h : va_Z C n d v A u H) : va_Z C n d v A U H := by
  obtain ⟨cf, kf, fi, f, a, cell, h1, h2, h3, h4, h5⟩ := h
  obtain ⟨k', hi', he⟩ := State.fieldFound?_setVm hvm h1
  exact ⟨cf, k', fi, f, a, cell, hi', h2, by rw [he]; exact h3, by rw [he]; exact h4, h5⟩
theorem ri_gets (h : gF ((D, s0), (p, l, e, R, s, m, args, below, meth, c), (mc, ms, fr, lo), F, nL) cc "java/util/ArrayList" ret tb nm) {z : Nat} (hz : gz s0 z) (d : decode cc pc = .ok (.getstatic 39, 3))
    (k : G ((D, s0), (p, l, e, R, s, m, args, below, meth, c), (mc, ms, fr, lo), F, nL) (pc + 3) ls (.ref z :: st) M cl sl) : G ((D, s0), (p, l, e, R, s, m, args, below, meth, c), (mc, ms, fr, lo), F, nL) pc ls st M cl sl := by
  obtain ⟨hx, hb, hml, hr, hlk, hown, htb, hnm, hR, h0, hW, hsh⟩ := h
  intro H locs arr hP hS hN hL hl
  obtain ⟨cf, kf, fi, f, a, cell, h1, h2, h3, h4, h5, h6, h7, h8⟩ := va_Z_moved hW.alike hz.1
  exact W.gets hx hb hown (g_w h0 hW (w := .fieldLink "java/util/ArrayList" 39 "java/util/ArrayList" "DEFAULTCAPACITY_EMPTY_ELEMENTDATA" "[Ljava/lang/Object;") (by decide +kernel) rfl) h1 h2 h3 h4 (by rw [hS.2 a (Array.getElem?_eq_some_iff.mp h5).1]; exact h5) (fun e => by rw [e] at h6; cases h6) h7 rfl d (k H locs arr hP hS hN hL hl)
theorem ri_alenZ (h : gF ((D, s0), (p, l, e, R, s, m, args, below, meth, c), (mc, ms, fr, lo), F, nL) cc own ret tb nm) {z : Nat} (hz : gz s0 z) (d : decode cc pc = .ok (.arraylength, 1))
    (k : G ((D, s0), (p, l, e, R, s, m, args, below, meth, c), (mc, ms, fr, lo), F, nL) (pc + 1) ls (.int 0 :: st) M cl sl) : G ((D, s0), (p, l, e, R, s, m, args, below, meth, c), (mc, ms, fr, lo), F, nL) pc ls (.ref z :: st) M cl sl := by
  obtain ⟨hx, hb, hml, hr, hlk, hown, htb, hnm, hR, h0, hW, hsh⟩ := h
  intro H locs arr hP hS hN hL hl
  obtain ⟨cell, q1, q2, q3⟩ := hz.2
  exact W.alen (n := 0) hx hb (show H[z]? = some cell by rw [hS.2 z (Array.getElem?_eq_some_iff.mp q1).1]; exact q1) (State.isArrayOf_alike hW.alike q2) q3 rfl rfl d (k H locs arr hP hS hN hL hl)
theorem ri_acmp_eq (h : gF ((D, s0), (p, l, e, R, s, m, args, below, meth, c), (mc, ms, fr, lo), F, nL) cc own ret tb nm) {x y : Nat} {off : Int} (tgt : Nat) (d : decode cc pc = .ok (.if_acmp .eq off, 3)) (ht : (pc : Int) + off = (tgt : Int))
    (kt : x = y → G ((D, s0), (p, l, e, R, s, m, args, below, meth, c), (mc, ms, fr, lo), F, nL) tgt ls st M cl sl) (kf : ¬ x = y → G ((D, s0), (p, l, e, R, s, m, args, below, meth, c), (mc, ms, fr, lo), F, nL) (pc + 3) ls st M cl sl) : G ((D, s0), (p, l, e, R, s, m, args, below, meth, c), (mc, ms, fr, lo), F, nL) pc ls (.ref y :: .ref x :: st) M cl sl := by
  obtain ⟨hx, hb, -⟩ := h
  intro H locs arr hP hS hN hL hl
  exact lv_acmp_eq (rx := some x) (ry := some y) hx hb d ht (fun q => kt (Option.some.inj q) H locs arr hP hS hN hL hl) (fun q => kf (fun z => q (by rw [z])) H locs arr hP hS hN hL hl)
theorem ri_acmp_ne (h : gF ((D, s0), (p, l, e, R, s, m, args, below, meth, c), (mc, ms, fr, lo), F, nL) cc own ret tb nm) {x y : Nat} {off : Int} (tgt : Nat) (d : decode cc pc = .ok (.if_acmp .ne off, 3)) (ht : (pc : Int) + off = (tgt : Int))
    (kt : ¬ x = y → G ((D, s0), (p, l, e, R, s, m, args, below, meth, c), (mc, ms, fr, lo), F, nL) tgt ls st M cl sl) (kf : x = y → G ((D, s0), (p, l, e, R, s, m, args, below, meth, c), (mc, ms, fr, lo), F, nL) (pc + 3) ls st M cl sl) : G ((D, s0), (p, l, e, R, s, m, args, below, meth, c), (mc, ms, fr, lo), F, nL) pc ls (.ref y :: .ref x :: st) M cl sl := by
  obtain ⟨hx, hb, -⟩ := h
  intro H locs arr hP hS hN hL hl
  exact lv_acmp_ne (rx := some x) (ry := some y) hx hb d ht (fun q => kt (fun z => q (by rw [z])) H locs arr hP hS hN hL hl) (fun q => kf (Option.some.inj q) H locs arr hP hS hN hL hl)
theorem ri_cast (h : gF ((D, s0), (p, l, e, R, s, m, args, below, meth, c), (mc, ms, fr, lo), F, nL) cc own ret tb nm) {i a ci : Nat} {fs : List Value} {r : vw_C} (d : decode cc pc = .ok (.checkcast i, 3)) (hM : M a = some (.inr (ci, fs))) (hr0 : gcl[ci]? = some r) (hw : Cond.classLink own i r.1 ∈ lw_tbl) (hc : Cond.castable r.1 r.1 ∈ lw_tbl)
    (k : G ((D, s0), (p, l, e, R, s, m, args, below, meth, c), (mc, ms, fr, lo), F, nL) (pc + 3) ls (.ref a :: st) M cl sl) : G ((D, s0), (p, l, e, R, s, m, args, below, meth, c), (mc, ms, fr, lo), F, nL) pc ls (.ref a :: st) M cl sl := by
  obtain ⟨hx, hb, hml, hr, hlk, hown, htb, hnm, hR, h0, hW, hsh⟩ := h
  intro H locs arr hP hS hN hL hl
  have hca : va_Nw (.castable r.1 r.1) s := by
    obtain ⟨-, -, a0, ha, -⟩ := h0
    exact va_Nw.warmC hW (va_Nw.of rfl (ha _ hc))
  exact va_castY hx hb hown (g_w h0 hW hw rfl) hca (g_recv (h0.2.1.moved hW.alike) hP hM hr0) d (k H locs arr hP hS hN hL hl)
/-- a word list: an object of the class ci may lie in an array of the kind kd -/
def gFit (ci kd : Nat) : Prop := ∃ (r : vw_C) (E : String), gcl[ci]? = some r ∧ kd < 5 ∧ gat kd = .object E ∧ Cond.castable r.1 E ∈ lw_tbl
theorem gFit13 : gFit 1 3 := ⟨_, _, rfl, by decide, rfl, by decide +kernel⟩
theorem gFit33 : gFit 3 3 := ⟨_, _, rfl, by decide, rfl, by decide +kernel⟩
theorem gFit43 : gFit 4 3 := ⟨_, _, rfl, by decide, rfl, by decide +kernel⟩
theorem gFit44 : gFit 4 4 := ⟨_, _, rfl, by decide, rfl, by decide +kernel⟩
theorem ri_aast (h : gF ((D, s0), (p, l, e, R, s, m, args, below, meth, c), (mc, ms, fr, lo), F, nL) cc own ret tb nm) {a n kd ci v : Nat} {g : Nat → Option Nat} {vs : List Value} {x : Int32} (j : Nat) (d : decode cc pc = .ok (.aastore, 1)) (hM : M a = some (.inl (kd, n, fun j => va_rf (g j)))) (hv : M v = some (.inr (ci, vs))) (hf : gFit ci kd) (hx0 : x = nI j) (hj : j < n) (hn : n < 2147483648)
    (k : G ((D, s0), (p, l, e, R, s, m, args, below, meth, c), (mc, ms, fr, lo), F, nL) (pc + 1) ls st (gup M a (.inl (kd, n, fun i => va_rf (va_up g j (some v) i)))) cl sl) : G ((D, s0), (p, l, e, R, s, m, args, below, meth, c), (mc, ms, fr, lo), F, nL) pc ls (.ref v :: .int x :: .ref a :: st) M cl sl := by
  obtain ⟨hx, hb, hml, hr, hlk, hown, htb, hnm, hR, h0, hW, hsh⟩ := h
  intro H locs arr hP hS hN hL hl
  subst hx0
  obtain ⟨r, E, f1, f2, f3, f4⟩ := hf
  obtain ⟨-, hc⟩ := hP a _ hM
  have hK := (h0.2.1.moved hW.alike).2 kd f2
  have hcl : (nI j).toNatClampNeg = j := nI_clamp (by omega)
  have ha := hN a _ hM
  obtain ⟨cellV, g1, g2, g3⟩ := g_recv (h0.2.1.moved hW.alike) hP hv f1
  have hca : va_Nw (.castable r.1 E) s := by
    obtain ⟨-, -, a0, ha, -⟩ := h0
    exact va_Nw.warmC hW (va_Nw.of rfl (ha _ f4))
  obtain ⟨c0, t0, k1, k2, k3⟩ := Cond.castable_spec (va_Nw.use (A := args) rfl hca)
  cases g3.symm.trans k1
  obtain ⟨kC, hkC, -⟩ := Vm.findClass_spec g3
  have hRA := hK.2
  rw [f3] at hRA
  obtain ⟨kA, comp, r1, r2, r3, -⟩ := hRA
  cases k2.symm.trans r3
  obtain ⟨kE, hkE, -⟩ := Vm.findClass_spec r3
  refine W.aast hx hb hc (fun q h => by cases h) (fun h => by cases h) r1 r2 rfl hkE ⟨fun z => nI_pos (by omega) z, by rw [hcl]; show j < (arrV _ _ _).slots.size; rw [arrV_size]; exact hj⟩ g1 (fun q h => by rw [h] at g2; cases g2) hkC k3 rfl rfl d fun H1 w1 w2 w3 => ?_
  rw [hcl, arrV_store] at w1
  refine k H1 _ arr (hP.set ⟨f2, w1.trans (congrArg some (congrArg (arrV _ n) (funext fun i => ?_)))⟩ w3) (hS.set ha (by omega) (fun q _ hq => w3 q hq)) (hN.set ha) (g_L.set hL ha) hl
  simp only [updV, va_up]
  split <;> rfl
theorem ri_anew (h : gF ((D, s0), (p, l, e, R, s, m, args, below, meth, c), (mc, ms, fr, lo), F, nL) cc own ret tb nm) {i : Nat} (kd n : Nat) {E : String} {x : Int32} (d : decode cc pc = .ok (.anewarray i, 3)) (hk : kd < 5) (hE : gat kd = .object E) (hw : Cond.classLink own i E ∈ lw_tbl) (ho : Cond.arrayOver (.object E) ∈ lw_tbl) (hx0 : x = nI n) (hn : n < 2000000) (hc : cl + 1 ≤ mc) (hs : sl + n ≤ ms)
    (k : ∀ q : Nat, M q = none → G ((D, s0), (p, l, e, R, s, m, args, below, meth, c), (mc, ms, fr, lo), F, nL) (pc + 3) ls (.ref q :: st) (gup M q (.inl (kd, n, fun _ => va_rf none))) (cl + 1) (sl + n)) : G ((D, s0), (p, l, e, R, s, m, args, below, meth, c), (mc, ms, fr, lo), F, nL) pc ls (.int x :: st) M cl sl := by
  obtain ⟨hx, hb, hml, hr, hlk, hown, htb, hnm, hR, h0, hW, hsh⟩ := h
  intro H locs arr hP hS hN hL hl
  subst hR
  subst hx0
  have hcl : (nI n).toNatClampNeg = n := nI_clamp (by omega)
  have hRA := ((h0.2.1.moved hW.alike).2 kd hk).2
  rw [hE] at hRA
  obtain ⟨kA, comp, r1, r2, r3, r4⟩ := hRA
  have hao : va_AO E s := by
    obtain ⟨-, -, a0, ha, -⟩ := h0
    exact va_AO.moved hW.alike (va_AO.of (ha _ ho))
  refine W.anew hx hb hown (g_w h0 hW hw rfl) (va_AO.use hao) rfl d rfl (nI_pos (by omega)) (by rw [hcl]; omega) hc (by rw [hcl]; exact hs) fun cA kA' comp' g1 g2 g3 g4 => ?_
  cases g1.symm.trans r4
  rw [hcl, arrV_new]
  have o1 : ∀ q, q < H.size → (H.push (arrV (D.2.2 kd) n fun _ => Value.null))[q]? = H[q]? := fun q hq => by simp [Array.getElem?_push, Nat.ne_of_lt hq]
  refine k H.size (g_none hP) _ locs arr (g_push hP o1 ⟨hk, by simp [va_rf]⟩) (g_Spush hS (by simp) o1) (hN.set hS.1) hL hl
theorem ri_ldcM (h : gF ((D, s0), (p, l, e, R, s, m, args, below, meth, c), (mc, ms, fr, lo), F, nL) cc own ret tb nm) {i mi : Nat} {C : String} (d : decode cc pc = .ok (.ldc i, 2)) (hw : Cond.classLink own i C ∈ lw_tbl) (hmi : va_Mi C mi s0)
    (k : G ((D, s0), (p, l, e, R, s, m, args, below, meth, c), (mc, ms, fr, lo), F, nL) (pc + 2) ls (.ref mi :: st) M cl sl) : G ((D, s0), (p, l, e, R, s, m, args, below, meth, c), (mc, ms, fr, lo), F, nL) pc ls st M cl sl := by
  obtain ⟨hx, hb, hml, hr, hlk, hown, htb, hnm, hR, h0, hW, hsh⟩ := h
  intro H locs arr hP hS hN hL hl
  exact va_ldcM hx hb hown (g_w h0 hW hw rfl) (va_Mi.moved hW.alike hmi) d (k H locs arr hP hS hN hL hl)
theorem g_mi (h0 : g_0 l D s0) : ∃ mi, va_Mi "[Ljava/lang/Object;" mi s0 := by
  obtain ⟨-, -, a0, ha, hg⟩ := h0
  exact va_Mi.of (flat_of_before _ hg (.isRef (.mirror "[Ljava/lang/Object;")) (by decide +kernel))
theorem ri_getC (h : gF ((D, s0), (p, l, e, R, s, m, args, below, meth, c), (mc, ms, fr, lo), F, nL) cc "java/util/Arrays" ret tb nm) {a n mi : Nat} {f : Nat → Value} (d : decode cc pc = .ok (.invokevirtual 86, 3)) (hM : M a = some (.inl (3, n, f))) (hmi : va_Mi "[Ljava/lang/Object;" mi s0) (hfr : 1 ≤ fr) (hlo : (st.map fun v => v.category).sum + 14 ≤ lo)
    (k : G ((D, s0), (p, l, e, R, s, m, args, below, meth, c), (mc, ms, fr, lo), F, nL) (pc + 3) ls (.ref mi :: st) M cl sl) : G ((D, s0), (p, l, e, R, s, m, args, below, meth, c), (mc, ms, fr, lo), F, nL) pc ls (.ref a :: st) M cl sl := by
  obtain ⟨hx, hb, hml, hr, hlk, hown, htb, hnm, hR, h0, hW, hsh⟩ := h
  intro H locs arr hP hS hN hL hl
  subst hR
  obtain ⟨-, hc⟩ := hP a _ hM
  have hRA := ((h0.2.1.moved hW.alike).2 3 (by omega)).2
  have hfc : s.vm.findClass "[Ljava/lang/Object;" = some (D.2.2 3) := va_nmO hRA rfl
  exact va_getC hx hb (hml.trans hl.1.symm) hown (g_w h0 hW (w := .methodLink "java/util/Arrays" 86 ⟨"java/lang/Object", "getClass", "()Ljava/lang/Class;"⟩) (by decide +kernel) rfl) (g_wn h0 hW (w := .declares ⟨"java/lang/Object", "getClass", "()Ljava/lang/Class;"⟩) (by decide +kernel) rfl) (g_w h0 hW (w := .selects "[Ljava/lang/Object;" ⟨"java/lang/Object", "getClass", "()Ljava/lang/Class;"⟩ ⟨"java/lang/Object", "getClass", "()Ljava/lang/Class;"⟩) (by decide +kernel) rfl) (g_w h0 hW (w := .instanceMethod ⟨"java/lang/Object", "getClass", "()Ljava/lang/Class;"⟩) (by decide +kernel) rfl) (g_w h0 hW (w := .native ⟨"java/lang/Object", "getClass", "()Ljava/lang/Class;"⟩) (by decide +kernel) rfl) (va_Mi.moved hW.alike hmi) ⟨_, hc, rfl, hfc⟩ hfr hlo d (k H locs arr hP hS hN hL hl)
end G5
