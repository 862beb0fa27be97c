/-! THE LAYER, 3: new cells, arrays, throws. -/
def gOk (w : Cond) : Bool := goodWord w || (match w with | .castable .. => true | .declares .. => true | _ => false)
theorem g_wn {l : Launch} {D : gD} {s0 s : State} {args : Array Value} {w : Cond} (h0 : g_0 l D s0) (hW : s0.WarmedH s.vm) (hw : w ∈ lw_tbl) (hg : gOk w = true) : w.before args s = true := by
  by_cases g : goodWord w = true
  · exact g_w h0 hW hw g
  · unfold gOk at hg
    rw [Bool.or_eq_true] at hg
    rcases hg with hg | hg
    · exact absurd hg g
    · obtain ⟨-, -, a0, ha, -⟩ := h0
      split at hg
      · exact va_Nw.use rfl (va_Nw.warmC hW (va_Nw.of rfl (ha _ hw)))
      · exact va_Nw.use rfl (va_Nw.warmD hW (va_Nw.of rfl (ha _ hw)))
      · cases hg
theorem g_kept {s0 : State} {H : Heap} (h : g_S s0 H) : ∀ a : Nat, a < s0.heap.size → ¬ (fun q : Nat => s0.heap.size ≤ q) a → H[a]? = s0.heap[a]? := fun a ha _ => h.2 a ha
section GN
variable {D : gD} {s0 : State} {p : Program} {l : Launch} {e : Env} {R : Room} {s : State} {m : MethodId} {args : Array Value} {below : List Frame} {meth : Method} {c : Code} {mc ms fr lo nL : Nat} {F : gR → gH → Prop}
variable {cc : ByteArray} {own nm : String} {ret : Option FieldType} {tb : List ExceptionTableEntry} {pc cl sl : Nat} {ls : List (Nat × Value)} {st : List Value} {M : gH}
theorem ri_obj (h : gF ((D, s0), (p, l, e, R, s, m, args, below, meth, c), (mc, ms, fr, lo), F, nL) cc own ret tb nm) {i a : Nat} (d : decode cc pc = .ok (.invokespecial i, 3)) (hw : Cond.methodLink own i objectInit ∈ lw_tbl) (hf : 1 ≤ fr) (hlo : (st.map fun v => v.category).sum + 12 ≤ lo)
    (k : G ((D, s0), (p, l, e, R, s, m, args, below, meth, c), (mc, ms, fr, lo), F, nL) (pc + 3) ls st M cl sl) : G ((D, s0), (p, l, e, R, s, m, args, below, meth, c), (mc, ms, fr, lo), F, nL) pc ls (.ref a :: st) M cl sl := by
  obtain ⟨hx, hb, hml, hr, hlk, hown, htb, hnm, hR, h0, hW, hsh⟩ := h
  intro H locs arr hP hS hN hL hl
  subst hR
  refine W.objInit hx hb hown (g_w h0 hW hw rfl) (g_w h0 hW (w := .instanceMethod objectInit) (by decide +kernel) rfl) (g_w h0 hW (w := .code objectInit ⟨#[0xb1]⟩ 1 none) (by decide +kernel) rfl) rfl (by rw [hml]; exact hl.1) rfl d hf (by show 2 * 0 + _ + 12 ≤ lo; omega) (k H locs arr hP hS hN hL hl)
/-- the words of 'new' -/
def gNW (own : String) (i ci : Nat) (fs : List Value) : Prop := ∃ r : vw_C, gcl[ci]? = some r ∧ fs.length = r.2.2 ∧ (∀ j, j < r.2.2 → defaultValue (gtt ci j) = vp_V fs j) ∧ Cond.classLink own i r.1 ∈ lw_tbl ∧ Cond.instantiable r.1 r.2.2 ∈ lw_tbl ∧ Cond.initialized r.1 ∈ lw_tbl
theorem ri_new (h : gF ((D, s0), (p, l, e, R, s, m, args, below, meth, c), (mc, ms, fr, lo), F, nL) cc own ret tb nm) {i ci : Nat} {fs : List Value} (d : decode cc pc = .ok (.new i, 3)) (hn : gNW own i ci fs) (hc : cl + 1 ≤ mc) (hs : sl + fs.length ≤ ms)
    (k : ∀ q : Nat, M q = none → G ((D, s0), (p, l, e, R, s, m, args, below, meth, c), (mc, ms, fr, lo), F, nL) (pc + 3) ls (.ref q :: st) (gup M q (.inr (ci, fs))) (cl + 1) (sl + fs.length)) : G ((D, s0), (p, l, e, R, s, m, args, below, meth, c), (mc, ms, fr, lo), F, nL) pc ls st M cl sl := by
  obtain ⟨hx, hb, hml, hr, hlk, hown, htb, hnm, hR, h0, hW, hsh⟩ := h
  intro H locs arr hP hS hN hL hl
  subst hR
  obtain ⟨r, e1, e2, e3, w1, w2, w3⟩ := hn
  have hK := h0.2.1.moved hW.alike
  have hKn := hK.1.1 ci _ e1
  have hts : ∀ w ∈ u_ws r.1 r.2.1 r.2.2, w.before args s = true := fun w hw => g_w h0 hW (gcl_in ci r e1 w hw) (by
    obtain ⟨j, -, rfl⟩ := List.mem_map.mp hw
    unfold u_lay
    split <;> rfl)
  rw [e2] at hs k
  refine W.newcK hx hb hown (g_w h0 hW w1 rfl) (g_w h0 hW w2 rfl) (g_w h0 hW w3 rfl) rfl d hc hs hKn.2.1 rfl fun H1 kC hkC q1 z1 o1 => ?_
  have hnone : M H.size = none := by
    cases hq : M H.size with
    | none => rfl
    | some x => exact absurd (hP _ x hq).lt (Nat.lt_irrefl _)
  refine k H.size hnone H1 locs arr ?_ ?_ (hN.set hS.1) hL hl
  · intro q x hq
    by_cases hqa : q = H.size
    · subst hqa
      rw [gup_s] at hq
      cases hq
      exact ⟨r, e1, e2, (u_born (gtt ci) hts (fun _ hh => hh) hKn hkC q1 (gcl_ty ci r e1)).to e3⟩
    · rw [gup_n hqa] at hq
      exact (hP q x hq).kept (o1 q ((hP q x hq).lt))
  · exact ⟨by have := hS.1; omega, fun q hq => by rw [o1 q (Nat.lt_of_lt_of_le hq hS.1)]; exact hS.2 q hq⟩
theorem g_none {H : Heap} (hP : g_P D M H) : M H.size = none := by
  cases hq : M H.size with
  | none => rfl
  | some x => exact absurd (hP _ x hq).lt (Nat.lt_irrefl _)
theorem g_push {H H1 : Heap} {e : gE} (hP : g_P D M H) (o1 : ∀ q, q < H.size → H1[q]? = H[q]?) (he : g_at D H.size e H1) : g_P D (gup M H.size e) H1 := by
  intro q x hq
  by_cases hqa : q = H.size
  · subst hqa
    rw [gup_s] at hq
    cases hq
    exact he
  · rw [gup_n hqa] at hq
    exact (hP q x hq).kept (o1 q ((hP q x hq).lt))
theorem g_Spush {H H1 : Heap} (hS : g_S s0 H) (z1 : H1.size = H.size + 1) (o1 : ∀ q, q < H.size → H1[q]? = H[q]?) : g_S s0 H1 := ⟨by have := hS.1; omega, fun q hq => by rw [o1 q (Nat.lt_of_lt_of_le hq hS.1)]; exact hS.2 q hq⟩
abbrev ai (n : Nat) (g : Nat → Int32) : gE := .inl (0, n, fun j => .int (g j))
abbrev al (n : Nat) (g : Nat → Int64) : gE := .inl (1, n, fun j => .long (g j))
abbrev ab (n : Nat) (g : Nat → Int32) : gE := .inl (2, n, fun j => .int (g j))
abbrev ao (n : Nat) (g : Nat → Option Nat) : gE := .inl (3, n, fun j => va_rf (g j))
abbrev ash (n : Nat) (g : Nat → Option Nat) : gE := .inl (4, n, fun j => va_rf (g j))
theorem ri_newarr (h : gF ((D, s0), (p, l, e, R, s, m, args, below, meth, c), (mc, ms, fr, lo), F, nL) cc own ret tb nm) {at0 : ArrayType} (kd n : Nat) {x : Int32} (d : decode cc pc = .ok (.newarray at0, 2)) (hk : kd < 3) (hty : newarray.typeOf at0 = gat kd) (hw : Cond.arrayClass (newarray.typeOf at0) ∈ lw_tbl) (hx0 : x = nI n) (hn : n < 2000000) (hc : cl + 1 ≤ mc) (hs : sl + n ≤ ms)
    (k : ∀ q : Nat, M q = none → G ((D, s0), (p, l, e, R, s, m, args, below, meth, c), (mc, ms, fr, lo), F, nL) (pc + 2) ls (.ref q :: st) (gup M q (.inl (kd, n, fun _ => defaultValue (gat kd)))) (cl + 1) (sl + n)) : G ((D, s0), (p, l, e, R, s, m, args, below, meth, c), (mc, ms, fr, lo), F, nL) pc ls (.int x :: st) M cl sl := by
  obtain ⟨hx, hb, hml, hr, hlk, hown, htb, hnm, hR, h0, hW, hsh⟩ := h
  intro H locs arr hP hS hN hL hl
  subst hR
  subst hx0
  have hcl : (nI n).toNatClampNeg = n := nI_clamp (by omega)
  have hK := (h0.2.1.moved hW.alike).2 kd (by omega)
  refine W.newa hx hb (g_w h0 hW hw rfl) rfl d rfl (nI_pos (by omega)) (by rw [hcl]; exact Nat.le_trans (Nat.mul_le_mul_left n (show componentBytes (newarray.typeOf at0) ≤ 8 by cases at0 <;> decide)) (by omega)) hc (by rw [hcl]; exact hs) fun cA kA comp g1 g2 g3 => ?_
  rw [hcl, hty]
  have hcA : cA = D.2.2 kd := by
    have h2 := hK.2
    rw [hty] at g1
    match kd, hk with
    | 0, _ => exact Option.some.inj (g1.symm.trans h2)
    | 1, _ => exact Option.some.inj (g1.symm.trans h2)
    | 2, _ => exact Option.some.inj (g1.symm.trans h2)
  subst hcA
  rw [arrV_new]
  have o1 : ∀ q, q < H.size → (H.push (arrV (D.2.2 kd) n fun _ => defaultValue (gat kd)))[q]? = H[q]? := fun q hq => by simp [Array.getElem?_push, Nat.ne_of_lt hq]
  refine k H.size (g_none hP) _ locs arr (g_push hP o1 ⟨by omega, by simp⟩) (g_Spush hS (by simp) o1) (hN.set hS.1) hL hl
theorem g_in {n j : Nat} (hj : j < n) (hn : n < 2147483648) : ¬ (nI j < 0 ∨ n ≤ (nI j).toNatClampNeg) := nI_in hj (by omega)
theorem ri_iald (h : gF ((D, s0), (p, l, e, R, s, m, args, below, meth, c), (mc, ms, fr, lo), F, nL) cc own ret tb nm) {a n : Nat} {g : Nat → Int32} {x : Int32} (j : Nat) (d : decode cc pc = .ok (.iaload, 1)) (hM : M a = some (ai n g)) (hx0 : x = nI j) (hj : j < n) (hn : n < 2147483648)
    (k : G ((D, s0), (p, l, e, R, s, m, args, below, meth, c), (mc, ms, fr, lo), F, nL) (pc + 1) ls (.int (g j) :: st) M cl sl) : G ((D, s0), (p, l, e, R, s, m, args, below, meth, c), (mc, ms, fr, lo), F, nL) pc ls (.int x :: .ref a :: st) M cl sl := by
  obtain ⟨hx, hb, hml, hr, hlk, hown, htb, hnm, hR, h0, hW, hsh⟩ := h
  intro H locs arr hP hS hN hL hl
  subst hx0
  obtain ⟨-, hc⟩ := hP a _ hM
  have hK := (h0.2.1.moved hW.alike).2 0 (by omega)
  have hcl : (nI j).toNatClampNeg = j := nI_clamp (by omega)
  exact W.iald hx hb hc (hK.1 n _) (fun q => by cases q) (by rw [arrV_size]; exact g_in hj hn) (v := .int (g j)) (by rw [hcl]; exact arrV_read _ _ hj) rfl rfl d (k H locs arr hP hS hN hL hl)
theorem ri_lald (h : gF ((D, s0), (p, l, e, R, s, m, args, below, meth, c), (mc, ms, fr, lo), F, nL) cc own ret tb nm) {a n : Nat} {g : Nat → Int64} {x : Int32} (j : Nat) (d : decode cc pc = .ok (.laload, 1)) (hM : M a = some (al n g)) (hx0 : x = nI j) (hj : j < n) (hn : n < 2147483648)
    (k : G ((D, s0), (p, l, e, R, s, m, args, below, meth, c), (mc, ms, fr, lo), F, nL) (pc + 1) ls (.long (g j) :: st) M cl sl) : G ((D, s0), (p, l, e, R, s, m, args, below, meth, c), (mc, ms, fr, lo), F, nL) pc ls (.int x :: .ref a :: st) M cl sl := by
  obtain ⟨hx, hb, hml, hr, hlk, hown, htb, hnm, hR, h0, hW, hsh⟩ := h
  intro H locs arr hP hS hN hL hl
  subst hx0
  obtain ⟨-, hc⟩ := hP a _ hM
  have hK := (h0.2.1.moved hW.alike).2 1 (by omega)
  have hcl : (nI j).toNatClampNeg = j := nI_clamp (by omega)
  exact W.lald hx hb hc (hK.1 n _) (fun q => by cases q) (by rw [arrV_size]; exact g_in hj hn) (v := .long (g j)) (by rw [hcl]; exact arrV_read _ _ hj) rfl rfl d (k H locs arr hP hS hN hL hl)
theorem ri_zald (h : gF ((D, s0), (p, l, e, R, s, m, args, below, meth, c), (mc, ms, fr, lo), F, nL) cc own ret tb nm) {a n : Nat} {g : Nat → Int32} {x : Int32} (j : Nat) (d : decode cc pc = .ok (.baload, 1)) (hM : M a = some (ab n g)) (hx0 : x = nI j) (hj : j < n) (hn : n < 2147483648)
    (k : G ((D, s0), (p, l, e, R, s, m, args, below, meth, c), (mc, ms, fr, lo), F, nL) (pc + 1) ls (.int (g j) :: st) M cl sl) : G ((D, s0), (p, l, e, R, s, m, args, below, meth, c), (mc, ms, fr, lo), F, nL) pc ls (.int x :: .ref a :: st) M cl sl := by
  obtain ⟨hx, hb, hml, hr, hlk, hown, htb, hnm, hR, h0, hW, hsh⟩ := h
  intro H locs arr hP hS hN hL hl
  subst hx0
  obtain ⟨-, hc⟩ := hP a _ hM
  have hK := (h0.2.1.moved hW.alike).2 2 (by omega)
  have hcl : (nI j).toNatClampNeg = j := nI_clamp (by omega)
  exact W.zald hx hb hc (hK.1 n _) (fun q => by cases q) (by rw [arrV_size]; exact g_in hj hn) (v := .int (g j)) (by rw [hcl]; exact arrV_read _ _ hj) rfl rfl d (k H locs arr hP hS hN hL hl)
theorem ri_aald (h : gF ((D, s0), (p, l, e, R, s, m, args, below, meth, c), (mc, ms, fr, lo), F, nL) cc own ret tb nm) {a n : Nat} (kd : Nat) {g : Nat → Option Nat} {x : Int32} (j : Nat) {y : Nat} (d : decode cc pc = .ok (.aaload, 1)) (hkd : kd = 3 ∨ kd = 4) (hM : M a = some (.inl (kd, n, fun j => va_rf (g j)))) (hx0 : x = nI j) (hj : j < n) (hn : n < 2147483648) (hy : g j = some y)
    (k : G ((D, s0), (p, l, e, R, s, m, args, below, meth, c), (mc, ms, fr, lo), F, nL) (pc + 1) ls (.ref y :: st) M cl sl) : G ((D, s0), (p, l, e, R, s, m, args, below, meth, c), (mc, ms, fr, lo), F, nL) pc ls (.int x :: .ref a :: st) M cl sl := by
  obtain ⟨hx, hb, hml, hr, hlk, hown, htb, hnm, hR, h0, hW, hsh⟩ := h
  intro H locs arr hP hS hN hL hl
  subst hx0
  obtain ⟨-, hc⟩ := hP a _ hM
  have hK := (h0.2.1.moved hW.alike).2 kd (by omega)
  have hcl : (nI j).toNatClampNeg = j := nI_clamp (by omega)
  refine W.aald hx hb hc (hK.1 n _) (by rcases hkd with rfl | rfl <;> rfl) (fun q => by cases q) (by rw [arrV_size]; exact g_in hj hn) (v := .ref y) (by rw [hcl]; exact (arrV_read _ _ hj).trans (by show some (va_rf (g j)) = _; rw [hy]; rfl)) rfl rfl d (k H locs arr hP hS hN hL hl)
theorem ri_alen (h : gF ((D, s0), (p, l, e, R, s, m, args, below, meth, c), (mc, ms, fr, lo), F, nL) cc own ret tb nm) {a n kd : Nat} {f : Nat → Value} (d : decode cc pc = .ok (.arraylength, 1)) (hM : M a = some (.inl (kd, n, f)))
    (k : G ((D, s0), (p, l, e, R, s, m, args, below, meth, c), (mc, ms, fr, lo), F, nL) (pc + 1) ls (.int (nI n) :: st) M cl sl) : G ((D, s0), (p, l, e, R, s, m, args, below, meth, c), (mc, ms, fr, lo), F, nL) pc ls (.ref a :: st) M cl sl := by
  obtain ⟨hx, hb, hml, hr, hlk, hown, htb, hnm, hR, h0, hW, hsh⟩ := h
  intro H locs arr hP hS hN hL hl
  obtain ⟨hk, hc⟩ := hP a _ hM
  have hK := (h0.2.1.moved hW.alike).2 kd hk
  exact W.alen (n := nI n) hx hb hc (hK.1 n _) (by rw [arrV_size]; rfl) rfl rfl d (k H locs arr hP hS hN hL hl)
theorem ri_iast (h : gF ((D, s0), (p, l, e, R, s, m, args, below, meth, c), (mc, ms, fr, lo), F, nL) cc own ret tb nm) {a n : Nat} {g : Nat → Int32} {x v : Int32} (j : Nat) (d : decode cc pc = .ok (.iastore, 1)) (hM : M a = some (ai n g)) (hx0 : x = nI j) (hj : j < n) (hn : n < 2147483648)
    (k : G ((D, s0), (p, l, e, R, s, m, args, below, meth, c), (mc, ms, fr, lo), F, nL) (pc + 1) ls st (gup M a (ai n (va_up g j v))) cl sl) : G ((D, s0), (p, l, e, R, s, m, args, below, meth, c), (mc, ms, fr, lo), F, nL) pc ls (.int v :: .int x :: .ref a :: st) M cl sl := by
  obtain ⟨hx, hb, hml, hr, hlk, hown, htb, hnm, hR, h0, hW, hsh⟩ := h
  intro H locs arr hP hS hN hL hl
  subst hx0
  obtain ⟨-, hc⟩ := hP a _ hM
  have hK := (h0.2.1.moved hW.alike).2 0 (by omega)
  have hcl : (nI j).toNatClampNeg = j := nI_clamp (by omega)
  have ha := hN a _ hM
  refine W.iast hx hb hc (hK.1 n _) (fun q => by cases q) (by rw [arrV_size]; exact g_in hj hn) rfl rfl d fun H1 w1 w2 w3 => ?_
  rw [hcl, arrV_store] at w1
  refine k H1 _ arr (hP.set ⟨by show (0 : Nat) < 5; omega, w1.trans (congrArg some (congrArg (arrV _ n) (funext fun i => ?_)))⟩ w3) (hS.set ha (by omega) (fun q _ hq => w3 q hq)) (hN.set ha) (g_L.set hL ha) hl
  simp only [updV, va_up]
  split <;> rfl
theorem ri_last (h : gF ((D, s0), (p, l, e, R, s, m, args, below, meth, c), (mc, ms, fr, lo), F, nL) cc own ret tb nm) {a n : Nat} {g : Nat → Int64} {x : Int32} {v : Int64} (j : Nat) (d : decode cc pc = .ok (.lastore, 1)) (hM : M a = some (al n g)) (hx0 : x = nI j) (hj : j < n) (hn : n < 2147483648)
    (k : G ((D, s0), (p, l, e, R, s, m, args, below, meth, c), (mc, ms, fr, lo), F, nL) (pc + 1) ls st (gup M a (al n (va_up g j v))) cl sl) : G ((D, s0), (p, l, e, R, s, m, args, below, meth, c), (mc, ms, fr, lo), F, nL) pc ls (.long v :: .int x :: .ref a :: st) M cl sl := by
  obtain ⟨hx, hb, hml, hr, hlk, hown, htb, hnm, hR, h0, hW, hsh⟩ := h
  intro H locs arr hP hS hN hL hl
  subst hx0
  obtain ⟨-, hc⟩ := hP a _ hM
  have hK := (h0.2.1.moved hW.alike).2 1 (by omega)
  have hcl : (nI j).toNatClampNeg = j := nI_clamp (by omega)
  have ha := hN a _ hM
  refine W.last hx hb hc (hK.1 n _) (fun q => by cases q) (by rw [arrV_size]; exact g_in hj hn) rfl rfl d fun H1 w1 w2 w3 => ?_
  rw [hcl, arrV_store] at w1
  refine k H1 _ arr (hP.set ⟨by show (1 : Nat) < 5; omega, w1.trans (congrArg some (congrArg (arrV _ n) (funext fun i => ?_)))⟩ w3) (hS.set ha (by omega) (fun q _ hq => w3 q hq)) (hN.set ha) (g_L.set hL ha) hl
  simp only [updV, va_up]
  split <;> rfl
theorem ri_zast (h : gF ((D, s0), (p, l, e, R, s, m, args, below, meth, c), (mc, ms, fr, lo), F, nL) cc own ret tb nm) {a n : Nat} {g : Nat → Int32} {x v : Int32} (j : Nat) (d : decode cc pc = .ok (.bastore, 1)) (hM : M a = some (ab n g)) (hx0 : x = nI j) (hj : j < n) (hn : n < 2147483648) (hv : narrow .boolean (.int v) = .int v)
    (k : G ((D, s0), (p, l, e, R, s, m, args, below, meth, c), (mc, ms, fr, lo), F, nL) (pc + 1) ls st (gup M a (ab n (va_up g j v))) cl sl) : G ((D, s0), (p, l, e, R, s, m, args, below, meth, c), (mc, ms, fr, lo), F, nL) pc ls (.int v :: .int x :: .ref a :: st) M cl sl := by
  obtain ⟨hx, hb, hml, hr, hlk, hown, htb, hnm, hR, h0, hW, hsh⟩ := h
  intro H locs arr hP hS hN hL hl
  subst hx0
  obtain ⟨-, hc⟩ := hP a _ hM
  have hK := (h0.2.1.moved hW.alike).2 2 (by omega)
  have hcl : (nI j).toNatClampNeg = j := nI_clamp (by omega)
  have ha := hN a _ hM
  refine W.zast hx hb hc (hK.1 n _) (fun q => by cases q) (by rw [arrV_size]; exact g_in hj hn) rfl rfl d fun H1 w1 w2 w3 => ?_
  rw [hcl, hv, arrV_store] at w1
  refine k H1 _ arr (hP.set ⟨by show (2 : Nat) < 5; omega, w1.trans (congrArg some (congrArg (arrV _ n) (funext fun i => ?_)))⟩ w3) (hS.set ha (by omega) (fun q _ hq => w3 q hq)) (hN.set ha) (g_L.set hL ha) hl
  simp only [updV, va_up]
  split <;> rfl
end GN
