
/-! THE LAYER. A ghost heap M (address to entry): arrays (kind, length, contents) and objects (number of the class in gcl, fields). G: the machine at pc with known locals, stack and ghost heap comes to the method's end. -/
abbrev gE : Type := (Nat × Nat × (Nat → Value)) ⊕ (Nat × List Value)
abbrev gH : Type := Nat → Option gE
abbrev gD : Type := (Nat → ClassId) × (Nat → Nat → Nat) × (Nat → ClassId)
abbrev gR : Type := Option Value ⊕ String
def gat (k : Nat) : FieldType := match k with
  | 0 => .int
  | 1 => .long
  | 2 => .boolean
  | 3 => .object "java/lang/Object"
  | _ => .object "ShapeTrees$Shape"
def gup (M : gH) (a : Nat) (e : gE) : gH := fun q => if q = a then some e else M q
theorem gup_s {M : gH} {a : Nat} {e : gE} : gup M a e a = some e := by simp [gup]
theorem gup_n {M : gH} {a b : Nat} {e : gE} (h : b ≠ a) : gup M a e b = M b := by simp [gup, h]
theorem gup_t {M : gH} {a b : Nat} {e : gE} {x : Option gE} (h : b ≠ a) (hb : M b = x) : gup M a e b = x := by rw [gup_n h]; exact hb
theorem gup_u {M : gH} {a : Nat} {e e2 : gE} : gup (gup M a e) a e2 = gup M a e2 := by
  funext q
  by_cases h : q = a <;> simp [gup, h]
def g_at (D : gD) (a : Nat) (e : gE) (H : Heap) : Prop := match e with
  | .inl x => x.1 < 5 ∧ H[a]? = some (arrV (D.2.2 x.1) x.2.1 x.2.2)
  | .inr o => ∃ r : vw_C, gcl[o.1]? = some r ∧ o.2.length = r.2.2 ∧ t_OB a (D.1 o.1) r.2.2 (D.2.1 o.1) H (vp_V o.2)
def g_P (D : gD) (M : gH) (H : Heap) : Prop := ∀ (a : Nat) (e : gE), M a = some e → g_at D a e H
def g_S (s0 : State) (H : Heap) : Prop := s0.heap.size ≤ H.size ∧ ∀ q : Nat, q < s0.heap.size → H[q]? = s0.heap[q]?
def g_N (s0 : State) (M : gH) : Prop := ∀ (a : Nat) (e : gE), M a = some e → s0.heap.size ≤ a
def g_K (D : gD) (U : State) : Prop := va_K (D.1, D.2.1) gcl [] U ∧ ∀ k : Nat, k < 5 → ArrOfT U (D.2.2 k) (gat k) ∧ va_RA U (D.2.2 k) (gat k)
theorem g_K.moved {D : gD} {u U : State} (hvm : u.vm.Alike U.vm) (h : g_K D u) : g_K D U := ⟨va_K.moved hvm h.1, fun k hk => ⟨arrOfT_moved hvm (h.2 k hk).1, (h.2 k hk).2.moved hvm⟩⟩
/-- what is known of the state at the law's entry -/
def g_0 (l : Launch) (D : gD) (s0 : State) : Prop := l.stackTraces = false ∧ g_K D s0 ∧ ∃ a0 : Array Value, (∀ w ∈ lw_tbl, w.before a0 s0 = true) ∧ (Jvm.Cond.and given_1 narrow_1).before a0 s0 = true
theorem g_w {l : Launch} {D : gD} {s0 s : State} {args : Array Value} {w : Cond} (h0 : g_0 l D s0) (hW : s0.WarmedH s.vm) (hw : w ∈ lw_tbl) (hg : goodWord w = true) : w.before args s = true := by
  obtain ⟨-, -, a0, ha, -⟩ := h0
  exact word_at hW (good_of_word hg) (ha w hw)
theorem g_wF {l : Launch} {D : gD} {s0 s : State} {args : Array Value} {a : String} {i : Nat} {b n d h : String} (h0 : g_0 l D s0) (hW : s0.WarmedH s.vm) (hw : Cond.fieldLinkNest a i b n d h ∈ lw_tbl) : (Cond.fieldLinkNest a i b n d h).before args s = true := by
  obtain ⟨-, -, a0, ha, -⟩ := h0
  exact va_Nw.use rfl (va_Nw.warmF hW (va_Nw.of rfl (ha _ hw)))
theorem g_wM {l : Launch} {D : gD} {s0 s : State} {a : String} {i : Nat} {x : MethodName} {h : String} (h0 : g_0 l D s0) (hW : s0.WarmedH s.vm) (hw : Cond.methodLinkNest a i x h ∈ lw_tbl) : va_Nw (.methodLinkNest a i x h) s := by
  obtain ⟨-, -, a0, ha, -⟩ := h0
  exact va_Nw.warmM hW (va_Nw.of rfl (ha _ hw))
def gQ (D : gD) (s0 : State) (F : gR → gH → Prop) : Array Value → State → Outcome → State → Prop := fun _ _ o t => ∃ (v : Option Value) (M : gH), o = .returned v ∧ F (.inl v) M ∧ g_P D M t.heap ∧ g_S s0 t.heap ∧ g_N s0 M
def gX (D : gD) (s0 : State) (F : gR → gH → Prop) : String → State → State → Prop := fun E _ t => ∃ M : gH, F (.inr E) M ∧ g_P D M t.heap ∧ g_S s0 t.heap ∧ g_N s0 M
/-- (ids, the law's start), the walk's fixed things, (cells, slots, frames, locals), what is owed at the end, number of locals -/
abbrev gZ : Type := (gD × State) × (Program × Launch × Env × Room × State × MethodId × Array Value × List Frame × Method × Code) × (Nat × Nat × Nat × Nat) × (gR → gH → Prop) × Nat
def G (Z : gZ) (pc : Nat) (ls : List (Nat × Value)) (st : List Value) (M : gH) (cl sl : Nat) : Prop := match Z with
  | ((D, s0), (p, l, e, R, s, m, args, below, meth, c), (mc, ms, _, _), F, nL) => ∀ (H : Heap) (locs : List Loc) (arr : Array Slot), g_P D M H → g_S s0 H → g_N s0 M → (∀ z ∈ locs, s0.heap.size ≤ z.base) → lv_has arr nL ls →
      W p l e R s m args below meth c H locs cl sl (vx_MQ below (gQ D s0 F) (gX D s0 F) args s mc ms (fun q => s0.heap.size ≤ q)) (F0 m pc arr st)
def gF (Z : gZ) (cc : ByteArray) (own : String) (ret : Option FieldType) (tb : List ExceptionTableEntry) (nm : String) : Prop := match Z with
  | ((D, s0), (p, l, e, R, s, m, args, below, meth, c), (mc, ms, fr, lo), F, nL) => p.tables.exec = Jvm.exec ∧ c.code = cc ∧ c.maxLocals = nL ∧ meth.sig.returnType = ret ∧ meth.locks = false ∧ s.vm.findClass own = some m.cls ∧ c.exceptionTable.toList = tb ∧ meth.name = nm ∧ R = { frames := fr, cells := mc, slots := ms, locals := lo } ∧ g_0 l D s0 ∧ s0.WarmedH s.vm ∧ g_S s0 s.heap
def gl_get : List (Nat × Value) → Nat → Option Value
  | [], _ => none
  | (j, v) :: t, i => cond (Nat.beq j i) (some v) (gl_get t i)
theorem gl_get_mem : ∀ (l : List (Nat × Value)) (i : Nat) (v : Value), gl_get l i = some v → (i, v) ∈ l
  | [], i, v, h => by simp [gl_get] at h
  | (j, w) :: t, i, v, h => by
    unfold gl_get at h
    cases hb : Nat.beq j i with
    | true =>
      rw [hb] at h
      simp only [cond_true, Option.some.injEq] at h
      have := Nat.eq_of_beq_eq_true hb
      subst this; subst h
      exact List.mem_cons_self
    | false =>
      rw [hb] at h
      exact List.mem_cons_of_mem _ (gl_get_mem t i v h)
theorem gl_get_at {arr : Array Slot} {nL : Nat} {ls : List (Nat × Value)} {i : Nat} {v : Value} (h : lv_has arr nL ls) (hi : gl_get ls i = some v) : arr[i]? = some (.val v) := h.2.2 (i, v) (gl_get_mem ls i v hi)
def gl_1 (i : Nat) (v : Value) (l : List (Nat × Value)) : List (Nat × Value) := (i, v) :: l.filter (fun q => !(q.1 == i) && !(q.1 + 1 == i && q.2.category == 2))
def gl_2 (i : Nat) (v : Value) (l : List (Nat × Value)) : List (Nat × Value) := (i, v) :: l.filter (fun q => !(q.1 == i) && (!(q.1 == i + 1) && !(q.1 + 1 == i && q.2.category == 2)))
def gl_sub : List (Nat × Value) → List (Nat × Value) → Prop
  | [], _ => True
  | (i, v) :: t, l => gl_get l i = some v ∧ gl_sub t l
theorem gl_sub_mem : ∀ (a l : List (Nat × Value)), gl_sub a l → ∀ q ∈ a, gl_get l q.1 = some q.2
  | [], _, _, q, hq => by cases hq
  | (i, v) :: t, l, h, q, hq => by
    rcases List.mem_cons.mp hq with rfl | hq
    · exact h.1
    · exact gl_sub_mem t l h.2 q hq
theorem gcl_in : ∀ (ci : Nat) (r : vw_C), gcl[ci]? = some r → ∀ w ∈ u_ws r.1 r.2.1 r.2.2, w ∈ lw_tbl := by
  intro ci r h
  match ci, h with
  | 0, h => cases h; exact gin0
  | 1, h => cases h; exact gin1
  | 2, h => cases h; exact gin2
  | 3, h => cases h; exact gin3
  | 4, h => cases h; exact gin4
  | 5, h => cases h; exact gin5
  | 6, h => cases h; exact gin6
  | 7, h => cases h; exact gin7
  | n + 8, h => simp [gcl] at h
def gtt (ci : Nat) : Nat → FieldType := match ci with
  | 0 => gt0 | 1 => gt1 | 2 => gt2 | 3 => gt3 | 4 => gt4 | 5 => gt5 | 6 => gt6 | _ => gt7
theorem gcl_ty : ∀ (ci : Nat) (r : vw_C), gcl[ci]? = some r → ∀ k, k < r.2.2 → parseFieldDescriptor (r.2.1 k).2.2.1 = some (gtt ci k) := by
  intro ci r h
  match ci, h with
  | 0, h => cases h; exact gty0
  | 1, h => cases h; exact gty1
  | 2, h => cases h; exact gty2
  | 3, h => cases h; exact gty3
  | 4, h => cases h; exact gty4
  | 5, h => cases h; exact gty5
  | 6, h => cases h; exact gty6
  | 7, h => cases h; exact gty7
  | n + 8, h => simp [gcl] at h
theorem gcl_nm : ∀ (ci : Nat) (r : vw_C), gcl[ci]? = some r → ∀ a, a < r.2.2 → ∀ b, b < r.2.2 → a ≠ b → (r.2.1 a).2.1 ≠ (r.2.1 b).2.1 := by
  intro ci r h
  match ci, h with
  | 0, h => cases h; exact gnm0
  | 1, h => cases h; exact gnm1
  | 2, h => cases h; exact gnm2
  | 3, h => cases h; exact gnm3
  | 4, h => cases h; exact gnm4
  | 5, h => cases h; exact gnm5
  | 6, h => cases h; exact gnm6
  | 7, h => cases h; exact gnm7
  | n + 8, h => simp [gcl] at h
theorem g_at.kept {D : gD} {a : Nat} {e : gE} {H H1 : Heap} (h : g_at D a e H) (hq : H1[a]? = H[a]?) : g_at D a e H1 := by
  cases e with
  | inl x => exact ⟨h.1, hq.trans h.2⟩
  | inr o =>
    obtain ⟨r, h1, h2, h3⟩ := h
    exact ⟨r, h1, h2, h3.kept hq⟩
theorem g_at.lt {D : gD} {a : Nat} {e : gE} {H : Heap} (h : g_at D a e H) : a < H.size := by
  cases e with
  | inl x => exact (Array.getElem?_eq_some_iff.mp h.2).1
  | inr o =>
    obtain ⟨r, h1, h2, cell, h3, -⟩ := h
    exact (Array.getElem?_eq_some_iff.mp h3).1
theorem g_P.set {D : gD} {M : gH} {a : Nat} {e : gE} {H H1 : Heap} (h : g_P D M H) (he : g_at D a e H1) (oq : ∀ q : Nat, q ≠ a → H1[q]? = H[q]?) : g_P D (gup M a e) H1 := by
  intro q x hq
  by_cases hqa : q = a
  · subst hqa
    rw [gup_s] at hq
    cases hq
    exact he
  · rw [gup_n hqa] at hq
    exact (h q x hq).kept (oq q hqa)
theorem g_S.set {s0 : State} {a : Nat} {H H1 : Heap} (h : g_S s0 H) (ha : s0.heap.size ≤ a) (z : H.size ≤ H1.size) (oq : ∀ q : Nat, q < H.size → q ≠ a → H1[q]? = H[q]?) : g_S s0 H1 :=
  ⟨Nat.le_trans h.1 z, fun q hq => by rw [oq q (Nat.lt_of_lt_of_le hq h.1) (by omega)]; exact h.2 q hq⟩
theorem g_N.set {s0 : State} {M : gH} {a : Nat} {e : gE} (h : g_N s0 M) (ha : s0.heap.size ≤ a) : g_N s0 (gup M a e) := by
  intro q x hq
  by_cases hqa : q = a
  · subst hqa; exact ha
  · rw [gup_n hqa] at hq; exact h q x hq
theorem g_L.set {s0 : State} {locs : List Loc} {a k : Nat} (h : ∀ z ∈ locs, s0.heap.size ≤ z.base) (ha : s0.heap.size ≤ a) : ∀ z ∈ locs ++ [(⟨a, k⟩ : Loc)], s0.heap.size ≤ z.base := by
  intro z hz
  rcases List.mem_append.mp hz with h1 | h1
  · exact h z h1
  · rw [List.mem_singleton.mp h1]; exact ha

section GR
variable {Z : gZ} {cc : ByteArray} {own nm : String} {ret : Option FieldType} {tb : List ExceptionTableEntry} {pc cl sl : Nat} {ls : List (Nat × Value)} {st : List Value} {M : gH}
theorem ri_ls (ls' : List (Nat × Value)) (hs : gl_sub ls' ls) (k : G Z pc ls' st M cl sl) : G Z pc ls st M cl sl := by
  obtain ⟨⟨D, s0⟩, ⟨p, l, e, R, s, m, args, below, meth, c⟩, ⟨mc, ms, fr, lo⟩, F, nL⟩ := Z
  intro H locs arr hP hS hN hL hl
  exact k H locs arr hP hS hN hL ⟨hl.1, hl.2.1, fun q hq => gl_get_at hl (gl_sub_mem _ _ hs q hq)⟩
theorem ri_M (M' : gH) (hM : M = M') (k : G Z pc ls st M' cl sl) : G Z pc ls st M cl sl := by rw [hM]; exact k
theorem ri_widen {cl' sl' : Nat} (h1 : cl ≤ cl') (h2 : sl ≤ sl') (k : G Z pc ls st M cl' sl') : G Z pc ls st M cl sl := by
  obtain ⟨⟨D, s0⟩, ⟨p, l, e, R, s, m, args, below, meth, c⟩, ⟨mc, ms, fr, lo⟩, F, nL⟩ := Z
  intro H locs arr hP hS hN hL hl
  exact W.widen h1 h2 (k H locs arr hP hS hN hL hl)
theorem ri_iconst (h : gF Z cc own ret tb nm) {n : Int} (v : Int32) (d : decode cc pc = .ok (.iconst n, 1)) (hv : Int32.ofInt n = v) (k : G Z (pc + 1) ls (.int v :: st) M cl sl) : G Z pc ls (st) M cl sl := by
  obtain ⟨⟨D, s0⟩, ⟨p, l, e, R, s, m, args, below, meth, c⟩, ⟨mc, ms, fr, lo⟩, F, nL⟩ := Z
  obtain ⟨hx, hb, hml, hr, hlk, hown, htb, hnm, hR, h0, hW, hsh⟩ := h
  intro H locs arr hP hS hN hL hl
  exact lv_iconst hx hb d hv (k H locs arr hP hS hN hL hl)
theorem ri_bipush (h : gF Z cc own ret tb nm) {n : Int} (v : Int32) (d : decode cc pc = .ok (.bipush n, 2)) (hv : (Int8.ofInt n).toInt32 = v) (k : G Z (pc + 2) ls (.int v :: st) M cl sl) : G Z pc ls (st) M cl sl := by
  obtain ⟨⟨D, s0⟩, ⟨p, l, e, R, s, m, args, below, meth, c⟩, ⟨mc, ms, fr, lo⟩, F, nL⟩ := Z
  obtain ⟨hx, hb, hml, hr, hlk, hown, htb, hnm, hR, h0, hW, hsh⟩ := h
  intro H locs arr hP hS hN hL hl
  exact lv_bipush hx hb d hv (k H locs arr hP hS hN hL hl)
theorem ri_sipush (h : gF Z cc own ret tb nm) {n : Int} (v : Int32) (d : decode cc pc = .ok (.sipush n, 3)) (hv : (Int16.ofInt n).toInt32 = v) (k : G Z (pc + 3) ls (.int v :: st) M cl sl) : G Z pc ls (st) M cl sl := by
  obtain ⟨⟨D, s0⟩, ⟨p, l, e, R, s, m, args, below, meth, c⟩, ⟨mc, ms, fr, lo⟩, F, nL⟩ := Z
  obtain ⟨hx, hb, hml, hr, hlk, hown, htb, hnm, hR, h0, hW, hsh⟩ := h
  intro H locs arr hP hS hN hL hl
  exact lv_sipush hx hb d hv (k H locs arr hP hS hN hL hl)
theorem ri_lconst (h : gF Z cc own ret tb nm) {n : Fin 2} (v : Int64) (d : decode cc pc = .ok (.lconst n, 1)) (hv : Int64.ofNat (n : Nat) = v) (k : G Z (pc + 1) ls (.long v :: st) M cl sl) : G Z pc ls (st) M cl sl := by
  obtain ⟨⟨D, s0⟩, ⟨p, l, e, R, s, m, args, below, meth, c⟩, ⟨mc, ms, fr, lo⟩, F, nL⟩ := Z
  obtain ⟨hx, hb, hml, hr, hlk, hown, htb, hnm, hR, h0, hW, hsh⟩ := h
  intro H locs arr hP hS hN hL hl
  exact lv_lconst hx hb d hv (k H locs arr hP hS hN hL hl)
theorem ri_iload_n (h : gF Z cc own ret tb nm) {n : Fin 4} {x : Int32} (d : decode cc pc = .ok (.iload_n n, 1)) (hv : gl_get ls n.val = some (.int x)) (k : G Z (pc + 1) ls (.int x :: st) M cl sl) : G Z pc ls (st) M cl sl := by
  obtain ⟨⟨D, s0⟩, ⟨p, l, e, R, s, m, args, below, meth, c⟩, ⟨mc, ms, fr, lo⟩, F, nL⟩ := Z
  obtain ⟨hx, hb, hml, hr, hlk, hown, htb, hnm, hR, h0, hW, hsh⟩ := h
  intro H locs arr hP hS hN hL hl
  exact lv_iload_n hx hb d rfl (gl_get_at hl hv) (k H locs arr hP hS hN hL hl)
theorem ri_iload (h : gF Z cc own ret tb nm) {n : Nat} {x : Int32} (d : decode cc pc = .ok (.iload n, 2)) (hv : gl_get ls n = some (.int x)) (k : G Z (pc + 2) ls (.int x :: st) M cl sl) : G Z pc ls (st) M cl sl := by
  obtain ⟨⟨D, s0⟩, ⟨p, l, e, R, s, m, args, below, meth, c⟩, ⟨mc, ms, fr, lo⟩, F, nL⟩ := Z
  obtain ⟨hx, hb, hml, hr, hlk, hown, htb, hnm, hR, h0, hW, hsh⟩ := h
  intro H locs arr hP hS hN hL hl
  exact lv_iload hx hb d (gl_get_at hl hv) (k H locs arr hP hS hN hL hl)
theorem ri_istore_n (h : gF Z cc own ret tb nm) {n : Fin 4} {x : Int32} (d : decode cc pc = .ok (.istore_n n, 1)) (hn : n.val < Z.2.2.2.2) (k : G Z (pc + 1) (gl_1 n.val (.int x) ls) st M cl sl) : G Z pc ls (.int x :: st) M cl sl := by
  obtain ⟨⟨D, s0⟩, ⟨p, l, e, R, s, m, args, below, meth, c⟩, ⟨mc, ms, fr, lo⟩, F, nL⟩ := Z
  obtain ⟨hx, hb, hml, hr, hlk, hown, htb, hnm, hR, h0, hW, hsh⟩ := h
  intro H locs arr hP hS hN hL hl
  exact lv_istore_n hx hb d rfl hl hn rfl (fun arr hl => k H locs arr hP hS hN hL hl)
theorem ri_istore (h : gF Z cc own ret tb nm) {n : Nat} {x : Int32} (d : decode cc pc = .ok (.istore n, 2)) (hn : n < Z.2.2.2.2) (k : G Z (pc + 2) (gl_1 n (.int x) ls) st M cl sl) : G Z pc ls (.int x :: st) M cl sl := by
  obtain ⟨⟨D, s0⟩, ⟨p, l, e, R, s, m, args, below, meth, c⟩, ⟨mc, ms, fr, lo⟩, F, nL⟩ := Z
  obtain ⟨hx, hb, hml, hr, hlk, hown, htb, hnm, hR, h0, hW, hsh⟩ := h
  intro H locs arr hP hS hN hL hl
  exact lv_istore hx hb d hl hn rfl (fun arr hl => k H locs arr hP hS hN hL hl)
theorem ri_lload_n (h : gF Z cc own ret tb nm) {n : Fin 4} {x : Int64} (d : decode cc pc = .ok (.lload_n n, 1)) (hv : gl_get ls n.val = some (.long x)) (k : G Z (pc + 1) ls (.long x :: st) M cl sl) : G Z pc ls (st) M cl sl := by
  obtain ⟨⟨D, s0⟩, ⟨p, l, e, R, s, m, args, below, meth, c⟩, ⟨mc, ms, fr, lo⟩, F, nL⟩ := Z
  obtain ⟨hx, hb, hml, hr, hlk, hown, htb, hnm, hR, h0, hW, hsh⟩ := h
  intro H locs arr hP hS hN hL hl
  exact lv_lload_n hx hb d rfl (gl_get_at hl hv) (k H locs arr hP hS hN hL hl)
theorem ri_lload (h : gF Z cc own ret tb nm) {n : Nat} {x : Int64} (d : decode cc pc = .ok (.lload n, 2)) (hv : gl_get ls n = some (.long x)) (k : G Z (pc + 2) ls (.long x :: st) M cl sl) : G Z pc ls (st) M cl sl := by
  obtain ⟨⟨D, s0⟩, ⟨p, l, e, R, s, m, args, below, meth, c⟩, ⟨mc, ms, fr, lo⟩, F, nL⟩ := Z
  obtain ⟨hx, hb, hml, hr, hlk, hown, htb, hnm, hR, h0, hW, hsh⟩ := h
  intro H locs arr hP hS hN hL hl
  exact lv_lload hx hb d (gl_get_at hl hv) (k H locs arr hP hS hN hL hl)
theorem ri_lstore_n (h : gF Z cc own ret tb nm) {n : Fin 4} {x : Int64} (d : decode cc pc = .ok (.lstore_n n, 1)) (hn : n.val + 1 < Z.2.2.2.2) (k : G Z (pc + 1) (gl_2 n.val (.long x) ls) st M cl sl) : G Z pc ls (.long x :: st) M cl sl := by
  obtain ⟨⟨D, s0⟩, ⟨p, l, e, R, s, m, args, below, meth, c⟩, ⟨mc, ms, fr, lo⟩, F, nL⟩ := Z
  obtain ⟨hx, hb, hml, hr, hlk, hown, htb, hnm, hR, h0, hW, hsh⟩ := h
  intro H locs arr hP hS hN hL hl
  exact lv_lstore_n hx hb d rfl hl hn rfl (fun arr hl => k H locs arr hP hS hN hL hl)
theorem ri_lstore (h : gF Z cc own ret tb nm) {n : Nat} {x : Int64} (d : decode cc pc = .ok (.lstore n, 2)) (hn : n + 1 < Z.2.2.2.2) (k : G Z (pc + 2) (gl_2 n (.long x) ls) st M cl sl) : G Z pc ls (.long x :: st) M cl sl := by
  obtain ⟨⟨D, s0⟩, ⟨p, l, e, R, s, m, args, below, meth, c⟩, ⟨mc, ms, fr, lo⟩, F, nL⟩ := Z
  obtain ⟨hx, hb, hml, hr, hlk, hown, htb, hnm, hR, h0, hW, hsh⟩ := h
  intro H locs arr hP hS hN hL hl
  exact lv_lstore hx hb d hl hn rfl (fun arr hl => k H locs arr hP hS hN hL hl)
theorem ri_aload_n (h : gF Z cc own ret tb nm) {n : Fin 4} {x : Nat} (d : decode cc pc = .ok (.aload_n n, 1)) (hv : gl_get ls n.val = some (.ref x)) (k : G Z (pc + 1) ls (.ref x :: st) M cl sl) : G Z pc ls (st) M cl sl := by
  obtain ⟨⟨D, s0⟩, ⟨p, l, e, R, s, m, args, below, meth, c⟩, ⟨mc, ms, fr, lo⟩, F, nL⟩ := Z
  obtain ⟨hx, hb, hml, hr, hlk, hown, htb, hnm, hR, h0, hW, hsh⟩ := h
  intro H locs arr hP hS hN hL hl
  exact lv_aload_n hx hb d rfl (gl_get_at hl hv) (k H locs arr hP hS hN hL hl)
theorem ri_aload (h : gF Z cc own ret tb nm) {n : Nat} {x : Nat} (d : decode cc pc = .ok (.aload n, 2)) (hv : gl_get ls n = some (.ref x)) (k : G Z (pc + 2) ls (.ref x :: st) M cl sl) : G Z pc ls (st) M cl sl := by
  obtain ⟨⟨D, s0⟩, ⟨p, l, e, R, s, m, args, below, meth, c⟩, ⟨mc, ms, fr, lo⟩, F, nL⟩ := Z
  obtain ⟨hx, hb, hml, hr, hlk, hown, htb, hnm, hR, h0, hW, hsh⟩ := h
  intro H locs arr hP hS hN hL hl
  exact lv_aload hx hb d (gl_get_at hl hv) (k H locs arr hP hS hN hL hl)
theorem ri_astore_n (h : gF Z cc own ret tb nm) {n : Fin 4} {x : Nat} (d : decode cc pc = .ok (.astore_n n, 1)) (hn : n.val < Z.2.2.2.2) (k : G Z (pc + 1) (gl_1 n.val (.ref x) ls) st M cl sl) : G Z pc ls (.ref x :: st) M cl sl := by
  obtain ⟨⟨D, s0⟩, ⟨p, l, e, R, s, m, args, below, meth, c⟩, ⟨mc, ms, fr, lo⟩, F, nL⟩ := Z
  obtain ⟨hx, hb, hml, hr, hlk, hown, htb, hnm, hR, h0, hW, hsh⟩ := h
  intro H locs arr hP hS hN hL hl
  exact lv_astore_n hx hb d rfl hl hn rfl (fun arr hl => k H locs arr hP hS hN hL hl)
theorem ri_astore (h : gF Z cc own ret tb nm) {n : Nat} {x : Nat} (d : decode cc pc = .ok (.astore n, 2)) (hn : n < Z.2.2.2.2) (k : G Z (pc + 2) (gl_1 n (.ref x) ls) st M cl sl) : G Z pc ls (.ref x :: st) M cl sl := by
  obtain ⟨⟨D, s0⟩, ⟨p, l, e, R, s, m, args, below, meth, c⟩, ⟨mc, ms, fr, lo⟩, F, nL⟩ := Z
  obtain ⟨hx, hb, hml, hr, hlk, hown, htb, hnm, hR, h0, hW, hsh⟩ := h
  intro H locs arr hP hS hN hL hl
  exact lv_astore hx hb d hl hn rfl (fun arr hl => k H locs arr hP hS hN hL hl)
theorem gl_get_idx : ∀ (l : List (Nat × Value)) (i : Nat) (v : Value), gl_get l i = some v → ∃ k : Nat, l[k]? = some (i, v) := fun l i v h => List.getElem?_of_mem (gl_get_mem l i v h)
theorem ri_iinc (h : gF Z cc own ret tb nm) {n : Nat} {c0 : Int} {x : Int32} (v : Int32) (d : decode cc pc = .ok (.iinc n c0, 3)) (hv : gl_get ls n = some (.int x)) (he : x + Int32.ofInt c0 = v) (hn : n < Z.2.2.2.2) (k : G Z (pc + 3) (gl_1 n (.int v) ls) st M cl sl) : G Z pc ls st M cl sl := by
  obtain ⟨⟨D, s0⟩, ⟨p, l, e, R, s, m, args, below, meth, c⟩, ⟨mc, ms, fr, lo⟩, F, nL⟩ := Z
  obtain ⟨hx, hb, hml, hr, hlk, hown, htb, hnm, hR, h0, hW, hsh⟩ := h
  intro H locs arr hP hS hN hL hl
  obtain ⟨j, hj⟩ := gl_get_idx _ _ _ hv
  exact lv_iinc hx hb d hl hj he hn rfl (fun arr hl => k H locs arr hP hS hN hL hl)
theorem ri_iadd (h : gF Z cc own ret tb nm) {x y : Int32} (d : decode cc pc = .ok (.iadd, 1)) (k : G Z (pc + 1) ls (.int (x + y) :: st) M cl sl) : G Z pc ls (.int y :: .int x :: st) M cl sl := by
  obtain ⟨⟨D, s0⟩, ⟨p, l, e, R, s, m, args, below, meth, c⟩, ⟨mc, ms, fr, lo⟩, F, nL⟩ := Z
  obtain ⟨hx, hb, hml, hr, hlk, hown, htb, hnm, hR, h0, hW, hsh⟩ := h
  intro H locs arr hP hS hN hL hl
  exact lv_iadd hx hb d (k H locs arr hP hS hN hL hl)
theorem ri_isub (h : gF Z cc own ret tb nm) {x y : Int32} (d : decode cc pc = .ok (.isub, 1)) (k : G Z (pc + 1) ls (.int (x - y) :: st) M cl sl) : G Z pc ls (.int y :: .int x :: st) M cl sl := by
  obtain ⟨⟨D, s0⟩, ⟨p, l, e, R, s, m, args, below, meth, c⟩, ⟨mc, ms, fr, lo⟩, F, nL⟩ := Z
  obtain ⟨hx, hb, hml, hr, hlk, hown, htb, hnm, hR, h0, hW, hsh⟩ := h
  intro H locs arr hP hS hN hL hl
  exact lv_isub hx hb d (k H locs arr hP hS hN hL hl)
theorem ri_imul (h : gF Z cc own ret tb nm) {x y : Int32} (d : decode cc pc = .ok (.imul, 1)) (k : G Z (pc + 1) ls (.int (x * y) :: st) M cl sl) : G Z pc ls (.int y :: .int x :: st) M cl sl := by
  obtain ⟨⟨D, s0⟩, ⟨p, l, e, R, s, m, args, below, meth, c⟩, ⟨mc, ms, fr, lo⟩, F, nL⟩ := Z
  obtain ⟨hx, hb, hml, hr, hlk, hown, htb, hnm, hR, h0, hW, hsh⟩ := h
  intro H locs arr hP hS hN hL hl
  exact lv_imul hx hb d (k H locs arr hP hS hN hL hl)
theorem ri_iand (h : gF Z cc own ret tb nm) {x y : Int32} (d : decode cc pc = .ok (.iand, 1)) (k : G Z (pc + 1) ls (.int (x &&& y) :: st) M cl sl) : G Z pc ls (.int y :: .int x :: st) M cl sl := by
  obtain ⟨⟨D, s0⟩, ⟨p, l, e, R, s, m, args, below, meth, c⟩, ⟨mc, ms, fr, lo⟩, F, nL⟩ := Z
  obtain ⟨hx, hb, hml, hr, hlk, hown, htb, hnm, hR, h0, hW, hsh⟩ := h
  intro H locs arr hP hS hN hL hl
  exact lv_iand hx hb d (k H locs arr hP hS hN hL hl)
theorem ri_ior (h : gF Z cc own ret tb nm) {x y : Int32} (d : decode cc pc = .ok (.ior, 1)) (k : G Z (pc + 1) ls (.int (x ||| y) :: st) M cl sl) : G Z pc ls (.int y :: .int x :: st) M cl sl := by
  obtain ⟨⟨D, s0⟩, ⟨p, l, e, R, s, m, args, below, meth, c⟩, ⟨mc, ms, fr, lo⟩, F, nL⟩ := Z
  obtain ⟨hx, hb, hml, hr, hlk, hown, htb, hnm, hR, h0, hW, hsh⟩ := h
  intro H locs arr hP hS hN hL hl
  exact lv_ior hx hb d (k H locs arr hP hS hN hL hl)
theorem ri_ixor (h : gF Z cc own ret tb nm) {x y : Int32} (d : decode cc pc = .ok (.ixor, 1)) (k : G Z (pc + 1) ls (.int (x ^^^ y) :: st) M cl sl) : G Z pc ls (.int y :: .int x :: st) M cl sl := by
  obtain ⟨⟨D, s0⟩, ⟨p, l, e, R, s, m, args, below, meth, c⟩, ⟨mc, ms, fr, lo⟩, F, nL⟩ := Z
  obtain ⟨hx, hb, hml, hr, hlk, hown, htb, hnm, hR, h0, hW, hsh⟩ := h
  intro H locs arr hP hS hN hL hl
  exact lv_ixor hx hb d (k H locs arr hP hS hN hL hl)
theorem ri_ladd (h : gF Z cc own ret tb nm) {x y : Int64} (d : decode cc pc = .ok (.ladd, 1)) (k : G Z (pc + 1) ls (.long (x + y) :: st) M cl sl) : G Z pc ls (.long y :: .long x :: st) M cl sl := by
  obtain ⟨⟨D, s0⟩, ⟨p, l, e, R, s, m, args, below, meth, c⟩, ⟨mc, ms, fr, lo⟩, F, nL⟩ := Z
  obtain ⟨hx, hb, hml, hr, hlk, hown, htb, hnm, hR, h0, hW, hsh⟩ := h
  intro H locs arr hP hS hN hL hl
  exact lv_ladd hx hb d (k H locs arr hP hS hN hL hl)
theorem ri_lsub (h : gF Z cc own ret tb nm) {x y : Int64} (d : decode cc pc = .ok (.lsub, 1)) (k : G Z (pc + 1) ls (.long (x - y) :: st) M cl sl) : G Z pc ls (.long y :: .long x :: st) M cl sl := by
  obtain ⟨⟨D, s0⟩, ⟨p, l, e, R, s, m, args, below, meth, c⟩, ⟨mc, ms, fr, lo⟩, F, nL⟩ := Z
  obtain ⟨hx, hb, hml, hr, hlk, hown, htb, hnm, hR, h0, hW, hsh⟩ := h
  intro H locs arr hP hS hN hL hl
  exact lv_lsub hx hb d (k H locs arr hP hS hN hL hl)
theorem ri_lmul (h : gF Z cc own ret tb nm) {x y : Int64} (d : decode cc pc = .ok (.lmul, 1)) (k : G Z (pc + 1) ls (.long (x * y) :: st) M cl sl) : G Z pc ls (.long y :: .long x :: st) M cl sl := by
  obtain ⟨⟨D, s0⟩, ⟨p, l, e, R, s, m, args, below, meth, c⟩, ⟨mc, ms, fr, lo⟩, F, nL⟩ := Z
  obtain ⟨hx, hb, hml, hr, hlk, hown, htb, hnm, hR, h0, hW, hsh⟩ := h
  intro H locs arr hP hS hN hL hl
  exact lv_lmul hx hb d (k H locs arr hP hS hN hL hl)
theorem ri_land (h : gF Z cc own ret tb nm) {x y : Int64} (d : decode cc pc = .ok (.land, 1)) (k : G Z (pc + 1) ls (.long (x &&& y) :: st) M cl sl) : G Z pc ls (.long y :: .long x :: st) M cl sl := by
  obtain ⟨⟨D, s0⟩, ⟨p, l, e, R, s, m, args, below, meth, c⟩, ⟨mc, ms, fr, lo⟩, F, nL⟩ := Z
  obtain ⟨hx, hb, hml, hr, hlk, hown, htb, hnm, hR, h0, hW, hsh⟩ := h
  intro H locs arr hP hS hN hL hl
  exact lv_land hx hb d (k H locs arr hP hS hN hL hl)
theorem ri_lor (h : gF Z cc own ret tb nm) {x y : Int64} (d : decode cc pc = .ok (.lor, 1)) (k : G Z (pc + 1) ls (.long (x ||| y) :: st) M cl sl) : G Z pc ls (.long y :: .long x :: st) M cl sl := by
  obtain ⟨⟨D, s0⟩, ⟨p, l, e, R, s, m, args, below, meth, c⟩, ⟨mc, ms, fr, lo⟩, F, nL⟩ := Z
  obtain ⟨hx, hb, hml, hr, hlk, hown, htb, hnm, hR, h0, hW, hsh⟩ := h
  intro H locs arr hP hS hN hL hl
  exact lv_lor hx hb d (k H locs arr hP hS hN hL hl)
theorem ri_lxor (h : gF Z cc own ret tb nm) {x y : Int64} (d : decode cc pc = .ok (.lxor, 1)) (k : G Z (pc + 1) ls (.long (x ^^^ y) :: st) M cl sl) : G Z pc ls (.long y :: .long x :: st) M cl sl := by
  obtain ⟨⟨D, s0⟩, ⟨p, l, e, R, s, m, args, below, meth, c⟩, ⟨mc, ms, fr, lo⟩, F, nL⟩ := Z
  obtain ⟨hx, hb, hml, hr, hlk, hown, htb, hnm, hR, h0, hW, hsh⟩ := h
  intro H locs arr hP hS hN hL hl
  exact lv_lxor hx hb d (k H locs arr hP hS hN hL hl)
theorem ri_idiv (h : gF Z cc own ret tb nm) {x y : Int32} (d : decode cc pc = .ok (.idiv, 1)) (hne : ¬ y = 0) (k : G Z (pc + 1) ls (.int (x / y) :: st) M cl sl) : G Z pc ls (.int y :: .int x :: st) M cl sl := by
  obtain ⟨⟨D, s0⟩, ⟨p, l, e, R, s, m, args, below, meth, c⟩, ⟨mc, ms, fr, lo⟩, F, nL⟩ := Z
  obtain ⟨hx, hb, hml, hr, hlk, hown, htb, hnm, hR, h0, hW, hsh⟩ := h
  intro H locs arr hP hS hN hL hl
  exact lv_idiv hx hb d hne (k H locs arr hP hS hN hL hl)
theorem ri_irem (h : gF Z cc own ret tb nm) {x y : Int32} (d : decode cc pc = .ok (.irem, 1)) (hne : ¬ y = 0) (k : G Z (pc + 1) ls (.int (x - x / y * y) :: st) M cl sl) : G Z pc ls (.int y :: .int x :: st) M cl sl := by
  obtain ⟨⟨D, s0⟩, ⟨p, l, e, R, s, m, args, below, meth, c⟩, ⟨mc, ms, fr, lo⟩, F, nL⟩ := Z
  obtain ⟨hx, hb, hml, hr, hlk, hown, htb, hnm, hR, h0, hW, hsh⟩ := h
  intro H locs arr hP hS hN hL hl
  exact lv_irem hx hb d hne (k H locs arr hP hS hN hL hl)
theorem ri_ldiv (h : gF Z cc own ret tb nm) {x y : Int64} (d : decode cc pc = .ok (.ldiv, 1)) (hne : ¬ y = 0) (k : G Z (pc + 1) ls (.long (x / y) :: st) M cl sl) : G Z pc ls (.long y :: .long x :: st) M cl sl := by
  obtain ⟨⟨D, s0⟩, ⟨p, l, e, R, s, m, args, below, meth, c⟩, ⟨mc, ms, fr, lo⟩, F, nL⟩ := Z
  obtain ⟨hx, hb, hml, hr, hlk, hown, htb, hnm, hR, h0, hW, hsh⟩ := h
  intro H locs arr hP hS hN hL hl
  exact lv_ldiv hx hb d hne (k H locs arr hP hS hN hL hl)
theorem ri_lrem (h : gF Z cc own ret tb nm) {x y : Int64} (d : decode cc pc = .ok (.lrem, 1)) (hne : ¬ y = 0) (k : G Z (pc + 1) ls (.long (x - x / y * y) :: st) M cl sl) : G Z pc ls (.long y :: .long x :: st) M cl sl := by
  obtain ⟨⟨D, s0⟩, ⟨p, l, e, R, s, m, args, below, meth, c⟩, ⟨mc, ms, fr, lo⟩, F, nL⟩ := Z
  obtain ⟨hx, hb, hml, hr, hlk, hown, htb, hnm, hR, h0, hW, hsh⟩ := h
  intro H locs arr hP hS hN hL hl
  exact lv_lrem hx hb d hne (k H locs arr hP hS hN hL hl)
theorem ri_lneg (h : gF Z cc own ret tb nm) {x : Int64} (d : decode cc pc = .ok (.lneg, 1)) (k : G Z (pc + 1) ls (.long (-x) :: st) M cl sl) : G Z pc ls (.long x :: st) M cl sl := by
  obtain ⟨⟨D, s0⟩, ⟨p, l, e, R, s, m, args, below, meth, c⟩, ⟨mc, ms, fr, lo⟩, F, nL⟩ := Z
  obtain ⟨hx, hb, hml, hr, hlk, hown, htb, hnm, hR, h0, hW, hsh⟩ := h
  intro H locs arr hP hS hN hL hl
  exact lv_lneg hx hb d (k H locs arr hP hS hN hL hl)
theorem ri_i2l (h : gF Z cc own ret tb nm) {x : Int32} (d : decode cc pc = .ok (.i2l, 1)) (k : G Z (pc + 1) ls (.long x.toInt64 :: st) M cl sl) : G Z pc ls (.int x :: st) M cl sl := by
  obtain ⟨⟨D, s0⟩, ⟨p, l, e, R, s, m, args, below, meth, c⟩, ⟨mc, ms, fr, lo⟩, F, nL⟩ := Z
  obtain ⟨hx, hb, hml, hr, hlk, hown, htb, hnm, hR, h0, hW, hsh⟩ := h
  intro H locs arr hP hS hN hL hl
  exact lv_i2l hx hb d rfl (k H locs arr hP hS hN hL hl)
theorem ri_lushr (h : gF Z cc own ret tb nm) {x : Int64} {y : Int32} (d : decode cc pc = .ok (.lushr, 1)) (k : G Z (pc + 1) ls (.long (x.toUInt64 >>> (y.toInt64.toUInt64 &&& Int64.toUInt64 63)).toInt64 :: st) M cl sl) : G Z pc ls (.int y :: .long x :: st) M cl sl := by
  obtain ⟨⟨D, s0⟩, ⟨p, l, e, R, s, m, args, below, meth, c⟩, ⟨mc, ms, fr, lo⟩, F, nL⟩ := Z
  obtain ⟨hx, hb, hml, hr, hlk, hown, htb, hnm, hR, h0, hW, hsh⟩ := h
  intro H locs arr hP hS hN hL hl
  exact lv_lushr hx hb d rfl (k H locs arr hP hS hN hL hl)
theorem ri_lshl (h : gF Z cc own ret tb nm) {x : Int64} {y : Int32} (d : decode cc pc = .ok (.lshl, 1)) (k : G Z (pc + 1) ls (.long (x <<< (y.toInt64 &&& 63)) :: st) M cl sl) : G Z pc ls (.int y :: .long x :: st) M cl sl := by
  obtain ⟨⟨D, s0⟩, ⟨p, l, e, R, s, m, args, below, meth, c⟩, ⟨mc, ms, fr, lo⟩, F, nL⟩ := Z
  obtain ⟨hx, hb, hml, hr, hlk, hown, htb, hnm, hR, h0, hW, hsh⟩ := h
  intro H locs arr hP hS hN hL hl
  exact lv_lshl hx hb d rfl (k H locs arr hP hS hN hL hl)
theorem ri_dup (h : gF Z cc own ret tb nm) {v : Value} (d : decode cc pc = .ok (.dup, 1)) (hv : v.category = 1) (k : G Z (pc + 1) ls (v :: v :: st) M cl sl) : G Z pc ls (v :: st) M cl sl := by
  obtain ⟨⟨D, s0⟩, ⟨p, l, e, R, s, m, args, below, meth, c⟩, ⟨mc, ms, fr, lo⟩, F, nL⟩ := Z
  obtain ⟨hx, hb, hml, hr, hlk, hown, htb, hnm, hR, h0, hW, hsh⟩ := h
  intro H locs arr hP hS hN hL hl
  exact lv_dup hx hb d hv (k H locs arr hP hS hN hL hl)
theorem ri_pop (h : gF Z cc own ret tb nm) {v : Value} (d : decode cc pc = .ok (.pop, 1)) (hv : v.category = 1) (k : G Z (pc + 1) ls (st) M cl sl) : G Z pc ls (v :: st) M cl sl := by
  obtain ⟨⟨D, s0⟩, ⟨p, l, e, R, s, m, args, below, meth, c⟩, ⟨mc, ms, fr, lo⟩, F, nL⟩ := Z
  obtain ⟨hx, hb, hml, hr, hlk, hown, htb, hnm, hR, h0, hW, hsh⟩ := h
  intro H locs arr hP hS hN hL hl
  exact lv_pop hx hb d hv (k H locs arr hP hS hN hL hl)
theorem ri_dup_x1 (h : gF Z cc own ret tb nm) {v w : Value} (d : decode cc pc = .ok (.dup_x1, 1)) (hv : v.category = 1) (hw : w.category = 1) (k : G Z (pc + 1) ls (v :: w :: v :: st) M cl sl) : G Z pc ls (v :: w :: st) M cl sl := by
  obtain ⟨⟨D, s0⟩, ⟨p, l, e, R, s, m, args, below, meth, c⟩, ⟨mc, ms, fr, lo⟩, F, nL⟩ := Z
  obtain ⟨hx, hb, hml, hr, hlk, hown, htb, hnm, hR, h0, hW, hsh⟩ := h
  intro H locs arr hP hS hN hL hl
  exact lv_dup_x1 hx hb d hv hw (k H locs arr hP hS hN hL hl)
theorem ri_dup2 (h : gF Z cc own ret tb nm) {v w : Value} (d : decode cc pc = .ok (.dup2, 1)) (hv : v.category = 1) (hw : w.category = 1) (k : G Z (pc + 1) ls (v :: w :: v :: w :: st) M cl sl) : G Z pc ls (v :: w :: st) M cl sl := by
  obtain ⟨⟨D, s0⟩, ⟨p, l, e, R, s, m, args, below, meth, c⟩, ⟨mc, ms, fr, lo⟩, F, nL⟩ := Z
  obtain ⟨hx, hb, hml, hr, hlk, hown, htb, hnm, hR, h0, hW, hsh⟩ := h
  intro H locs arr hP hS hN hL hl
  exact lv_dup2_11 hx hb d hv hw (k H locs arr hP hS hN hL hl)
theorem ri_if_eq (h : gF Z cc own ret tb nm) {x : Int32} {off : Int} (tgt : Nat) (d : decode cc pc = .ok (.ifCond .eq off, 3)) (ht : (pc : Int) + off = (tgt : Int)) (kt : x = 0 → G Z tgt ls st M cl sl) (kf : ¬ x = 0 → G Z (pc + 3) ls st M cl sl) : G Z pc ls (.int x :: st) M cl sl := by
  obtain ⟨⟨D, s0⟩, ⟨p, l, e, R, s, m, args, below, meth, c⟩, ⟨mc, ms, fr, lo⟩, F, nL⟩ := Z
  obtain ⟨hx, hb, hml, hr, hlk, hown, htb, hnm, hR, h0, hW, hsh⟩ := h
  intro H locs arr hP hS hN hL hl
  exact lv_if_eq hx hb d ht (fun q => kt q H locs arr hP hS hN hL hl) (fun q => kf q H locs arr hP hS hN hL hl)
theorem ri_if_ne (h : gF Z cc own ret tb nm) {x : Int32} {off : Int} (tgt : Nat) (d : decode cc pc = .ok (.ifCond .ne off, 3)) (ht : (pc : Int) + off = (tgt : Int)) (kt : ¬ x = 0 → G Z tgt ls st M cl sl) (kf : x = 0 → G Z (pc + 3) ls st M cl sl) : G Z pc ls (.int x :: st) M cl sl := by
  obtain ⟨⟨D, s0⟩, ⟨p, l, e, R, s, m, args, below, meth, c⟩, ⟨mc, ms, fr, lo⟩, F, nL⟩ := Z
  obtain ⟨hx, hb, hml, hr, hlk, hown, htb, hnm, hR, h0, hW, hsh⟩ := h
  intro H locs arr hP hS hN hL hl
  exact lv_if_ne hx hb d ht (fun q => kt q H locs arr hP hS hN hL hl) (fun q => kf q H locs arr hP hS hN hL hl)
theorem ri_if_lt (h : gF Z cc own ret tb nm) {x : Int32} {off : Int} (tgt : Nat) (d : decode cc pc = .ok (.ifCond .lt off, 3)) (ht : (pc : Int) + off = (tgt : Int)) (kt : x < 0 → G Z tgt ls st M cl sl) (kf : ¬ x < 0 → G Z (pc + 3) ls st M cl sl) : G Z pc ls (.int x :: st) M cl sl := by
  obtain ⟨⟨D, s0⟩, ⟨p, l, e, R, s, m, args, below, meth, c⟩, ⟨mc, ms, fr, lo⟩, F, nL⟩ := Z
  obtain ⟨hx, hb, hml, hr, hlk, hown, htb, hnm, hR, h0, hW, hsh⟩ := h
  intro H locs arr hP hS hN hL hl
  exact lv_if_lt hx hb d ht (fun q => kt q H locs arr hP hS hN hL hl) (fun q => kf q H locs arr hP hS hN hL hl)
theorem ri_if_ge (h : gF Z cc own ret tb nm) {x : Int32} {off : Int} (tgt : Nat) (d : decode cc pc = .ok (.ifCond .ge off, 3)) (ht : (pc : Int) + off = (tgt : Int)) (kt : 0 ≤ x → G Z tgt ls st M cl sl) (kf : ¬ 0 ≤ x → G Z (pc + 3) ls st M cl sl) : G Z pc ls (.int x :: st) M cl sl := by
  obtain ⟨⟨D, s0⟩, ⟨p, l, e, R, s, m, args, below, meth, c⟩, ⟨mc, ms, fr, lo⟩, F, nL⟩ := Z
  obtain ⟨hx, hb, hml, hr, hlk, hown, htb, hnm, hR, h0, hW, hsh⟩ := h
  intro H locs arr hP hS hN hL hl
  exact lv_if_ge hx hb d ht (fun q => kt q H locs arr hP hS hN hL hl) (fun q => kf q H locs arr hP hS hN hL hl)
theorem ri_if_gt (h : gF Z cc own ret tb nm) {x : Int32} {off : Int} (tgt : Nat) (d : decode cc pc = .ok (.ifCond .gt off, 3)) (ht : (pc : Int) + off = (tgt : Int)) (kt : 0 < x → G Z tgt ls st M cl sl) (kf : ¬ 0 < x → G Z (pc + 3) ls st M cl sl) : G Z pc ls (.int x :: st) M cl sl := by
  obtain ⟨⟨D, s0⟩, ⟨p, l, e, R, s, m, args, below, meth, c⟩, ⟨mc, ms, fr, lo⟩, F, nL⟩ := Z
  obtain ⟨hx, hb, hml, hr, hlk, hown, htb, hnm, hR, h0, hW, hsh⟩ := h
  intro H locs arr hP hS hN hL hl
  exact lv_if_gt hx hb d ht (fun q => kt q H locs arr hP hS hN hL hl) (fun q => kf q H locs arr hP hS hN hL hl)
theorem ri_if_le (h : gF Z cc own ret tb nm) {x : Int32} {off : Int} (tgt : Nat) (d : decode cc pc = .ok (.ifCond .le off, 3)) (ht : (pc : Int) + off = (tgt : Int)) (kt : x ≤ 0 → G Z tgt ls st M cl sl) (kf : ¬ x ≤ 0 → G Z (pc + 3) ls st M cl sl) : G Z pc ls (.int x :: st) M cl sl := by
  obtain ⟨⟨D, s0⟩, ⟨p, l, e, R, s, m, args, below, meth, c⟩, ⟨mc, ms, fr, lo⟩, F, nL⟩ := Z
  obtain ⟨hx, hb, hml, hr, hlk, hown, htb, hnm, hR, h0, hW, hsh⟩ := h
  intro H locs arr hP hS hN hL hl
  exact lv_if_le hx hb d ht (fun q => kt q H locs arr hP hS hN hL hl) (fun q => kf q H locs arr hP hS hN hL hl)
theorem ri_icmp_eq (h : gF Z cc own ret tb nm) {x y : Int32} {off : Int} (tgt : Nat) (d : decode cc pc = .ok (.if_icmp .eq off, 3)) (ht : (pc : Int) + off = (tgt : Int)) (kt : x = y → G Z tgt ls st M cl sl) (kf : ¬ x = y → G Z (pc + 3) ls st M cl sl) : G Z pc ls (.int y :: .int x :: st) M cl sl := by
  obtain ⟨⟨D, s0⟩, ⟨p, l, e, R, s, m, args, below, meth, c⟩, ⟨mc, ms, fr, lo⟩, F, nL⟩ := Z
  obtain ⟨hx, hb, hml, hr, hlk, hown, htb, hnm, hR, h0, hW, hsh⟩ := h
  intro H locs arr hP hS hN hL hl
  exact lv_icmp_eq hx hb d ht (fun q => kt q H locs arr hP hS hN hL hl) (fun q => kf q H locs arr hP hS hN hL hl)
theorem ri_lcmp_eq (h : gF Z cc own ret tb nm) {x y : Int64} {off : Int} (tgt : Nat) (d : decode cc pc = .ok (.lcmp, 1)) (d2 : decode cc (pc + 1) = .ok (.ifCond .eq off, 3)) (ht : ((pc + 1 : Nat) : Int) + off = (tgt : Int)) (kt : x = y → G Z tgt ls st M cl sl) (kf : ¬ x = y → G Z (pc + 4) ls st M cl sl) : G Z pc ls (.long y :: .long x :: st) M cl sl := by
  obtain ⟨⟨D, s0⟩, ⟨p, l, e, R, s, m, args, below, meth, c⟩, ⟨mc, ms, fr, lo⟩, F, nL⟩ := Z
  obtain ⟨hx, hb, hml, hr, hlk, hown, htb, hnm, hR, h0, hW, hsh⟩ := h
  intro H locs arr hP hS hN hL hl
  exact W.lcmp hx hb d (lv_if_eq hx hb d2 ht (fun q => (kt ((lg_cmp_eq x y).mp q) H locs arr hP hS hN hL hl)) (fun q => (kf (fun z => q ((lg_cmp_eq x y).mpr z)) H locs arr hP hS hN hL hl)))
theorem ri_icmp_ne (h : gF Z cc own ret tb nm) {x y : Int32} {off : Int} (tgt : Nat) (d : decode cc pc = .ok (.if_icmp .ne off, 3)) (ht : (pc : Int) + off = (tgt : Int)) (kt : ¬ x = y → G Z tgt ls st M cl sl) (kf : x = y → G Z (pc + 3) ls st M cl sl) : G Z pc ls (.int y :: .int x :: st) M cl sl := by
  obtain ⟨⟨D, s0⟩, ⟨p, l, e, R, s, m, args, below, meth, c⟩, ⟨mc, ms, fr, lo⟩, F, nL⟩ := Z
  obtain ⟨hx, hb, hml, hr, hlk, hown, htb, hnm, hR, h0, hW, hsh⟩ := h
  intro H locs arr hP hS hN hL hl
  exact lv_icmp_ne hx hb d ht (fun q => kt q H locs arr hP hS hN hL hl) (fun q => kf q H locs arr hP hS hN hL hl)
theorem ri_lcmp_ne (h : gF Z cc own ret tb nm) {x y : Int64} {off : Int} (tgt : Nat) (d : decode cc pc = .ok (.lcmp, 1)) (d2 : decode cc (pc + 1) = .ok (.ifCond .ne off, 3)) (ht : ((pc + 1 : Nat) : Int) + off = (tgt : Int)) (kt : ¬ x = y → G Z tgt ls st M cl sl) (kf : x = y → G Z (pc + 4) ls st M cl sl) : G Z pc ls (.long y :: .long x :: st) M cl sl := by
  obtain ⟨⟨D, s0⟩, ⟨p, l, e, R, s, m, args, below, meth, c⟩, ⟨mc, ms, fr, lo⟩, F, nL⟩ := Z
  obtain ⟨hx, hb, hml, hr, hlk, hown, htb, hnm, hR, h0, hW, hsh⟩ := h
  intro H locs arr hP hS hN hL hl
  exact W.lcmp hx hb d (lv_if_ne hx hb d2 ht (fun q => (kt (fun z => q ((lg_cmp_eq x y).mpr z)) H locs arr hP hS hN hL hl)) (fun q => (kf ((lg_cmp_eq x y).mp q) H locs arr hP hS hN hL hl)))
theorem ri_icmp_lt (h : gF Z cc own ret tb nm) {x y : Int32} {off : Int} (tgt : Nat) (d : decode cc pc = .ok (.if_icmp .lt off, 3)) (ht : (pc : Int) + off = (tgt : Int)) (kt : x < y → G Z tgt ls st M cl sl) (kf : ¬ x < y → G Z (pc + 3) ls st M cl sl) : G Z pc ls (.int y :: .int x :: st) M cl sl := by
  obtain ⟨⟨D, s0⟩, ⟨p, l, e, R, s, m, args, below, meth, c⟩, ⟨mc, ms, fr, lo⟩, F, nL⟩ := Z
  obtain ⟨hx, hb, hml, hr, hlk, hown, htb, hnm, hR, h0, hW, hsh⟩ := h
  intro H locs arr hP hS hN hL hl
  exact lv_icmp_lt hx hb d ht (fun q => kt q H locs arr hP hS hN hL hl) (fun q => kf q H locs arr hP hS hN hL hl)
theorem ri_lcmp_lt (h : gF Z cc own ret tb nm) {x y : Int64} {off : Int} (tgt : Nat) (d : decode cc pc = .ok (.lcmp, 1)) (d2 : decode cc (pc + 1) = .ok (.ifCond .lt off, 3)) (ht : ((pc + 1 : Nat) : Int) + off = (tgt : Int)) (kt : x < y → G Z tgt ls st M cl sl) (kf : ¬ x < y → G Z (pc + 4) ls st M cl sl) : G Z pc ls (.long y :: .long x :: st) M cl sl := by
  obtain ⟨⟨D, s0⟩, ⟨p, l, e, R, s, m, args, below, meth, c⟩, ⟨mc, ms, fr, lo⟩, F, nL⟩ := Z
  obtain ⟨hx, hb, hml, hr, hlk, hown, htb, hnm, hR, h0, hW, hsh⟩ := h
  intro H locs arr hP hS hN hL hl
  exact W.lcmp hx hb d (lv_if_lt hx hb d2 ht (fun q => (kt ((lg_cmp_lt x y).mp q) H locs arr hP hS hN hL hl)) (fun q => (kf (fun z => q ((lg_cmp_lt x y).mpr z)) H locs arr hP hS hN hL hl)))
theorem ri_icmp_ge (h : gF Z cc own ret tb nm) {x y : Int32} {off : Int} (tgt : Nat) (d : decode cc pc = .ok (.if_icmp .ge off, 3)) (ht : (pc : Int) + off = (tgt : Int)) (kt : y ≤ x → G Z tgt ls st M cl sl) (kf : ¬ y ≤ x → G Z (pc + 3) ls st M cl sl) : G Z pc ls (.int y :: .int x :: st) M cl sl := by
  obtain ⟨⟨D, s0⟩, ⟨p, l, e, R, s, m, args, below, meth, c⟩, ⟨mc, ms, fr, lo⟩, F, nL⟩ := Z
  obtain ⟨hx, hb, hml, hr, hlk, hown, htb, hnm, hR, h0, hW, hsh⟩ := h
  intro H locs arr hP hS hN hL hl
  exact lv_icmp_ge hx hb d ht (fun q => kt q H locs arr hP hS hN hL hl) (fun q => kf q H locs arr hP hS hN hL hl)
theorem ri_lcmp_ge (h : gF Z cc own ret tb nm) {x y : Int64} {off : Int} (tgt : Nat) (d : decode cc pc = .ok (.lcmp, 1)) (d2 : decode cc (pc + 1) = .ok (.ifCond .ge off, 3)) (ht : ((pc + 1 : Nat) : Int) + off = (tgt : Int)) (kt : y ≤ x → G Z tgt ls st M cl sl) (kf : ¬ y ≤ x → G Z (pc + 4) ls st M cl sl) : G Z pc ls (.long y :: .long x :: st) M cl sl := by
  obtain ⟨⟨D, s0⟩, ⟨p, l, e, R, s, m, args, below, meth, c⟩, ⟨mc, ms, fr, lo⟩, F, nL⟩ := Z
  obtain ⟨hx, hb, hml, hr, hlk, hown, htb, hnm, hR, h0, hW, hsh⟩ := h
  intro H locs arr hP hS hN hL hl
  exact W.lcmp hx hb d (lv_if_ge hx hb d2 ht (fun q => (kt ((lg_cmp_ge x y).mp q) H locs arr hP hS hN hL hl)) (fun q => (kf (fun z => q ((lg_cmp_ge x y).mpr z)) H locs arr hP hS hN hL hl)))
theorem ri_icmp_gt (h : gF Z cc own ret tb nm) {x y : Int32} {off : Int} (tgt : Nat) (d : decode cc pc = .ok (.if_icmp .gt off, 3)) (ht : (pc : Int) + off = (tgt : Int)) (kt : y < x → G Z tgt ls st M cl sl) (kf : ¬ y < x → G Z (pc + 3) ls st M cl sl) : G Z pc ls (.int y :: .int x :: st) M cl sl := by
  obtain ⟨⟨D, s0⟩, ⟨p, l, e, R, s, m, args, below, meth, c⟩, ⟨mc, ms, fr, lo⟩, F, nL⟩ := Z
  obtain ⟨hx, hb, hml, hr, hlk, hown, htb, hnm, hR, h0, hW, hsh⟩ := h
  intro H locs arr hP hS hN hL hl
  exact lv_icmp_gt hx hb d ht (fun q => kt q H locs arr hP hS hN hL hl) (fun q => kf q H locs arr hP hS hN hL hl)
theorem ri_lcmp_gt (h : gF Z cc own ret tb nm) {x y : Int64} {off : Int} (tgt : Nat) (d : decode cc pc = .ok (.lcmp, 1)) (d2 : decode cc (pc + 1) = .ok (.ifCond .gt off, 3)) (ht : ((pc + 1 : Nat) : Int) + off = (tgt : Int)) (kt : y < x → G Z tgt ls st M cl sl) (kf : ¬ y < x → G Z (pc + 4) ls st M cl sl) : G Z pc ls (.long y :: .long x :: st) M cl sl := by
  obtain ⟨⟨D, s0⟩, ⟨p, l, e, R, s, m, args, below, meth, c⟩, ⟨mc, ms, fr, lo⟩, F, nL⟩ := Z
  obtain ⟨hx, hb, hml, hr, hlk, hown, htb, hnm, hR, h0, hW, hsh⟩ := h
  intro H locs arr hP hS hN hL hl
  exact W.lcmp hx hb d (lv_if_gt hx hb d2 ht (fun q => (kt ((lg_cmp_gt x y).mp q) H locs arr hP hS hN hL hl)) (fun q => (kf (fun z => q ((lg_cmp_gt x y).mpr z)) H locs arr hP hS hN hL hl)))
theorem ri_icmp_le (h : gF Z cc own ret tb nm) {x y : Int32} {off : Int} (tgt : Nat) (d : decode cc pc = .ok (.if_icmp .le off, 3)) (ht : (pc : Int) + off = (tgt : Int)) (kt : x ≤ y → G Z tgt ls st M cl sl) (kf : ¬ x ≤ y → G Z (pc + 3) ls st M cl sl) : G Z pc ls (.int y :: .int x :: st) M cl sl := by
  obtain ⟨⟨D, s0⟩, ⟨p, l, e, R, s, m, args, below, meth, c⟩, ⟨mc, ms, fr, lo⟩, F, nL⟩ := Z
  obtain ⟨hx, hb, hml, hr, hlk, hown, htb, hnm, hR, h0, hW, hsh⟩ := h
  intro H locs arr hP hS hN hL hl
  exact lv_icmp_le hx hb d ht (fun q => kt q H locs arr hP hS hN hL hl) (fun q => kf q H locs arr hP hS hN hL hl)
theorem ri_lcmp_le (h : gF Z cc own ret tb nm) {x y : Int64} {off : Int} (tgt : Nat) (d : decode cc pc = .ok (.lcmp, 1)) (d2 : decode cc (pc + 1) = .ok (.ifCond .le off, 3)) (ht : ((pc + 1 : Nat) : Int) + off = (tgt : Int)) (kt : x ≤ y → G Z tgt ls st M cl sl) (kf : ¬ x ≤ y → G Z (pc + 4) ls st M cl sl) : G Z pc ls (.long y :: .long x :: st) M cl sl := by
  obtain ⟨⟨D, s0⟩, ⟨p, l, e, R, s, m, args, below, meth, c⟩, ⟨mc, ms, fr, lo⟩, F, nL⟩ := Z
  obtain ⟨hx, hb, hml, hr, hlk, hown, htb, hnm, hR, h0, hW, hsh⟩ := h
  intro H locs arr hP hS hN hL hl
  exact W.lcmp hx hb d (lv_if_le hx hb d2 ht (fun q => (kt ((lg_cmp_le x y).mp q) H locs arr hP hS hN hL hl)) (fun q => (kf (fun z => q ((lg_cmp_le x y).mpr z)) H locs arr hP hS hN hL hl)))
theorem ri_goto (h : gF Z cc own ret tb nm) {off : Int} (tgt : Nat) (d : decode cc pc = .ok (.goto off, 3)) (ht : (pc : Int) + off = (tgt : Int)) (k : G Z tgt ls st M cl sl) : G Z pc ls st M cl sl := by
  obtain ⟨⟨D, s0⟩, ⟨p, l, e, R, s, m, args, below, meth, c⟩, ⟨mc, ms, fr, lo⟩, F, nL⟩ := Z
  obtain ⟨hx, hb, hml, hr, hlk, hown, htb, hnm, hR, h0, hW, hsh⟩ := h
  intro H locs arr hP hS hN hL hl
  exact lv_goto hx hb d ht (k H locs arr hP hS hN hL hl)
theorem ri_ldc2 (h : gF Z cc own ret tb nm) {i : Nat} (v : Int64) (d : decode cc pc = .ok (.ldc2_w i, 3)) (hw : Cond.constantLong own i v ∈ lw_tbl) (k : G Z (pc + 3) ls (.long v :: st) M cl sl) : G Z pc ls st M cl sl := by
  obtain ⟨⟨D, s0⟩, ⟨p, l, e, R, s, m, args, below, meth, c⟩, ⟨mc, ms, fr, lo⟩, F, nL⟩ := Z
  obtain ⟨hx, hb, hml, hr, hlk, hown, htb, hnm, hR, h0, hW, hsh⟩ := h
  intro H locs arr hP hS hN hL hl
  exact lv_ldc2 hx hb hown (g_w h0 hW hw rfl) d (k H locs arr hP hS hN hL hl)
theorem ri_ldc (h : gF Z cc own ret tb nm) {i : Nat} (v : Int32) (d : decode cc pc = .ok (.ldc i, 2)) (hw : Cond.constant own i v ∈ lw_tbl) (k : G Z (pc + 2) ls (.int v :: st) M cl sl) : G Z pc ls st M cl sl := by
  obtain ⟨⟨D, s0⟩, ⟨p, l, e, R, s, m, args, below, meth, c⟩, ⟨mc, ms, fr, lo⟩, F, nL⟩ := Z
  obtain ⟨hx, hb, hml, hr, hlk, hown, htb, hnm, hR, h0, hW, hsh⟩ := h
  intro H locs arr hP hS hN hL hl
  exact lv_ldc hx hb hown (g_w h0 hW hw rfl) d (k H locs arr hP hS hN hL hl)
theorem ri_tabOut (h : gF Z cc own ret tb nm) {df lo0 hi : Int} {offs : Array Int} {len : Nat} {x : Int32} (tgt : Nat) (d : decode cc pc = .ok (.tableswitch df lo0 hi offs, len)) (hq : x.toInt < lo0 ∨ hi < x.toInt) (ht : (pc : Int) + df = (tgt : Int)) (k : G Z tgt ls st M cl sl) : G Z pc ls (.int x :: st) M cl sl := by
  obtain ⟨⟨D, s0⟩, ⟨p, l, e, R, s, m, args, below, meth, c⟩, ⟨mc, ms, fr, lo⟩, F, nL⟩ := Z
  obtain ⟨hx, hb, hml, hr, hlk, hown, htb, hnm, hR, h0, hW, hsh⟩ := h
  intro H locs arr hP hS hN hL hl
  exact lv_tableOut hx hb d hq ht (k H locs arr hP hS hN hL hl)
theorem ri_tabIn (h : gF Z cc own ret tb nm) {df lo0 hi off : Int} {offs : Array Int} {len : Nat} {x : Int32} (tgt : Nat) (d : decode cc pc = .ok (.tableswitch df lo0 hi offs, len)) (h1 : ¬ x.toInt < lo0) (h2 : ¬ hi < x.toInt) (ho : offs[(x.toInt - lo0).toNat]? = some off) (ht : (pc : Int) + off = (tgt : Int)) (k : G Z tgt ls st M cl sl) : G Z pc ls (.int x :: st) M cl sl := by
  obtain ⟨⟨D, s0⟩, ⟨p, l, e, R, s, m, args, below, meth, c⟩, ⟨mc, ms, fr, lo⟩, F, nL⟩ := Z
  obtain ⟨hx, hb, hml, hr, hlk, hown, htb, hnm, hR, h0, hW, hsh⟩ := h
  intro H locs arr hP hS hN hL hl
  exact lv_tableIn hx hb d h1 h2 ho ht (k H locs arr hP hS hN hL hl)
/-- a pool entry that names the field k of the class ci -/
def gFL (own : String) (i ci k : Nat) : Prop := ∃ r : vw_C, gcl[ci]? = some r ∧ k < r.2.2 ∧ (Cond.fieldLink own i (r.2.1 k).1 (r.2.1 k).2.1 (r.2.1 k).2.2.1 ∈ lw_tbl ∨ (∃ host : String, Cond.fieldLinkNest own i (r.2.1 k).1 (r.2.1 k).2.1 (r.2.1 k).2.2.1 host ∈ lw_tbl) ∨ (Cond.fieldLink own i r.1 (r.2.1 k).2.1 (r.2.1 k).2.2.1 ∈ lw_tbl ∧ Cond.sameField r.1 (r.2.1 k).1 (r.2.1 k).2.1 (r.2.1 k).2.2.1 ∈ lw_tbl))
theorem ri_get (h : gF Z cc own ret tb nm) {i ci n a : Nat} {fs : List Value} {v : Value} (d : decode cc pc = .ok (.getfield i, 3)) (fl : gFL own i ci n) (hM : M a = some (.inr (ci, fs))) (hv : fs[n]? = some v) (k : G Z (pc + 3) ls (v :: st) M cl sl) : G Z pc ls (.ref a :: st) M cl sl := by
  obtain ⟨⟨D, s0⟩, ⟨p, l, e, R, s, m, args, below, meth, c⟩, ⟨mc, ms, fr, lo⟩, F, nL⟩ := Z
  obtain ⟨hx, hb, hml, hr, hlk, hown, htb, hnm, hR, h0, hW, hsh⟩ := h
  intro H locs arr hP hS hN hL hl
  obtain ⟨r, hr1, hk, hl3⟩ := fl
  obtain ⟨r', e1, e2, e3⟩ := hP a _ hM
  have hrr : r' = r := Option.some.inj (e1.symm.trans hr1)
  subst hrr
  have hK := h0.2.1.moved hW.alike
  have hts : ∀ w ∈ u_ws r'.1 r'.2.1 r'.2.2, w.before args s = true := fun w hw => g_w h0 hW (gcl_in ci r' e1 w hw) (by
    obtain ⟨j, -, rfl⟩ := List.mem_map.mp hw
    unfold u_lay
    split <;> rfl)
  have hPv : va_P (D.1, D.2.1) gcl [(a, .inr (ci, fs))] H := fun j q hq => by
    have hz : j < 1 := (List.getElem?_eq_some_iff.mp hq).1
    rw [show j = 0 by omega] at hq
    cases hq
    exact ⟨r', e1, e3⟩
  rcases hl3 with hw | ⟨host, hw⟩ | ⟨hw, hsm⟩
  · exact va_get (D := (D.1, D.2.1)) (ci := ci) (C := r'.1) (T := r'.2.1) (N := r'.2.2) hx hb hts (fun _ hh => hh) hown hK.1 hPv 0 rfl e1 n hk (g_w h0 hW hw rfl) (fun _ h9 => h9) hv d (k H locs arr hP hS hN hL hl)
  · exact va_getN (D := (D.1, D.2.1)) (ci := ci) (C := r'.1) (T := r'.2.1) (N := r'.2.2) hx hb hts (fun _ hh => hh) hown hK.1 hPv 0 rfl e1 n hk (g_wF h0 hW hw) (fun _ h9 => h9) hv d (k H locs arr hP hS hN hL hl)
  · exact va_get (D := (D.1, D.2.1)) (ci := ci) (C := r'.1) (T := r'.2.1) (N := r'.2.2) hx hb hts (fun _ hh => hh) hown hK.1 hPv 0 rfl e1 n hk (g_w h0 hW hw rfl) (u_same (args := args) (g_w h0 hW hsm rfl)) hv d (k H locs arr hP hS hN hL hl)
theorem ri_put (h : gF Z cc own ret tb nm) {i ci n a : Nat} {fs : List Value} {v : Value} (d : decode cc pc = .ok (.putfield i, 3)) (fl : gFL own i ci n) (hfin : ∀ r, gcl[ci]? = some r → (r.2.1 n).2.2.2 = false) (hM : M a = some (.inr (ci, fs))) (hn : narrow (gtt ci n) v = v) (hfit : fits (gtt ci n) v = true) (k : G Z (pc + 3) ls st (gup M a (.inr (ci, fs.set n v))) cl sl) : G Z pc ls (v :: .ref a :: st) M cl sl := by
  obtain ⟨⟨D, s0⟩, ⟨p, l, e, R, s, m, args, below, meth, c⟩, ⟨mc, ms, fr, lo⟩, F, nL⟩ := Z
  obtain ⟨hx, hb, hml, hr, hlk, hown, htb, hnm, hR, h0, hW, hsh⟩ := h
  intro H locs arr hP hS hN hL hl
  obtain ⟨r, hr1, hk, hl3⟩ := fl
  obtain ⟨r', e1, e2, cell, q1, q2, q3, q4⟩ := hP a _ hM
  have hrr : r' = r := Option.some.inj (e1.symm.trans hr1)
  subst hrr
  have hK := h0.2.1.moved hW.alike
  have hts : ∀ w ∈ u_ws r'.1 r'.2.1 r'.2.2, w.before args s = true := fun w hw => g_w h0 hW (gcl_in ci r' e1 w hw) (by
    obtain ⟨j, -, rfl⟩ := List.mem_map.mp hw
    unfold u_lay
    split <;> rfl)
  have hap := va_apart (own := own) (args := args) (D := (D.1, D.2.1)) hts (fun _ hh => hh) (gtt ci) (gcl_ty ci r' e1) (gcl_nm ci r' e1) hK.1 e1
  obtain ⟨hSl, hfc, kC, hkC, hkind⟩ := hK.1.1 ci _ e1
  obtain ⟨cf, kf, fi, f, hi, hsl⟩ := hSl n hk
  have hlay := hts _ (u_in_lay hk)
  unfold u_lay at hlay
  rw [if_neg (by rw [hfin _ e1]; decide)] at hlay
  have hst := (u_facts hfc hkC (u_lays hts (fun _ hh => hh) hk) hi).1
  have h6 := u_store hfc hkC hkind hlay hi (gcl_ty ci r' e1 n hk) hn hfit
  have ha := hN a _ hM
  have kk : ∀ H' : Heap, H'[a]? = some (cell.setSlot f.slot v) → H'.size = H.size → (∀ q, q ≠ a → H'[q]? = H[q]?) → W p l e R s m args below meth c H' (locs ++ [⟨a, f.slot⟩]) cl sl (vx_MQ below (gQ D s0 F) (gX D s0 F) args s mc ms (fun q => s0.heap.size ≤ q)) (F0 m (pc + 3) arr st) := by
    intro H' w1 w2 w3
    rw [hsl] at w1 ⊢
    refine k H' _ arr (hP.set ⟨r', e1, by rw [List.length_set]; exact e2, t_OB.to (V := updV (vp_V fs) n v) ⟨_, w1, q2, q3, t_set q4 hap hk v⟩ (fun j _ => vp_updV_set (by rw [e2]; exact hk) v j)⟩ w3) (hS.set ha (by omega) (fun q _ hq => w3 q hq)) (hN.set ha) (g_L.set hL ha) hl
  rcases hl3 with hw | ⟨host, hw⟩ | ⟨hw, hsm⟩
  · exact W.putK hx hb (f := f) ⟨hown, g_w h0 hW hw rfl, ⟨_, _, _, hi⟩, hst⟩ (by rw [q2]; exact h6) q1 q3 (by rw [hsl]; exact k2_hasslot (q4 n hk)) rfl rfl d kk
  · exact va_WputK hx hb (f := f) hown (g_wF h0 hW hw) hi hst (by rw [q2]; exact h6) q1 q3 (by rw [hsl]; exact k2_hasslot (q4 n hk)) rfl rfl d kk
  · exact W.putK hx hb (f := f) ⟨hown, g_w h0 hW hw rfl, ⟨_, _, _, u_same (args := args) (g_w h0 hW hsm rfl) _ hi⟩, hst⟩ (by rw [q2]; exact h6) q1 q3 (by rw [hsl]; exact k2_hasslot (q4 n hk)) rfl rfl d kk
def gFI (own : String) (i ci n : Nat) : Prop := ∃ r : vw_C, gcl[ci]? = some r ∧ n < r.2.2 ∧ r.1 = own ∧ (r.2.1 n).1 = own ∧ (r.2.1 n).2.2.2 = true ∧ Cond.fieldLink own i own (r.2.1 n).2.1 (r.2.1 n).2.2.1 ∈ lw_tbl
theorem ri_putF (h : gF Z cc own ret tb "<init>") {i ci n a : Nat} {fs : List Value} {v : Value} (d : decode cc pc = .ok (.putfield i, 3)) (fl : gFI own i ci n) (hM : M a = some (.inr (ci, fs))) (hn : narrow (gtt ci n) v = v) (hfit : fits (gtt ci n) v = true) (k : G Z (pc + 3) ls st (gup M a (.inr (ci, fs.set n v))) cl sl) : G Z pc ls (v :: .ref a :: st) M cl sl := by
  obtain ⟨⟨D, s0⟩, ⟨p, l, e, R, s, m, args, below, meth, c⟩, ⟨mc, ms, fr, lo⟩, F, nL⟩ := Z
  obtain ⟨hx, hb, hml, hr, hlk, hown, htb, hnm, hR, h0, hW, hsh⟩ := h
  intro H locs arr hP hS hN hL hl
  obtain ⟨r, hr1, hk, f1, f2, f3, hlw⟩ := fl
  obtain ⟨r', e1, e2, cell, q1, q2, q3, q4⟩ := hP a _ hM
  have hrr : r' = r := Option.some.inj (e1.symm.trans hr1)
  subst hrr
  have hK := h0.2.1.moved hW.alike
  have hts : ∀ w ∈ u_ws r'.1 r'.2.1 r'.2.2, w.before args s = true := fun w hw => g_w h0 hW (gcl_in ci r' e1 w hw) (by
    obtain ⟨j, -, rfl⟩ := List.mem_map.mp hw
    unfold u_lay
    split <;> rfl)
  have hap := va_apart (own := own) (args := args) (D := (D.1, D.2.1)) hts (fun _ hh => hh) (gtt ci) (gcl_ty ci r' e1) (gcl_nm ci r' e1) hK.1 e1
  obtain ⟨hSl, hfc, kC, hkC, hkind⟩ := hK.1.1 ci _ e1
  obtain ⟨cf, kf, fi, f, hi, hsl⟩ := hSl n hk
  have hlay := hts _ (u_in_lay hk)
  unfold u_lay at hlay
  rw [if_pos f3] at hlay
  have hst := (u_facts hfc hkC (u_lays hts (fun _ hh => hh) hk) hi).1
  have h6 := u_fits hfc hkC hkind (u_lays hts (fun _ hh => hh) hk) hi (gcl_ty ci r' e1 n hk) hn hfit
  have ha := hN a _ hM
  have kk : ∀ H' : Heap, H'[a]? = some (cell.setSlot f.slot v) → H'.size = H.size → (∀ q, q ≠ a → H'[q]? = H[q]?) → W p l e R s m args below meth c H' (locs ++ [⟨a, f.slot⟩]) cl sl (vx_MQ below (gQ D s0 F) (gX D s0 F) args s mc ms (fun q => s0.heap.size ≤ q)) (F0 m (pc + 3) arr st) := by
    intro H' w1 w2 w3
    rw [hsl] at w1 ⊢
    refine k H' _ arr (hP.set ⟨r', e1, by rw [List.length_set]; exact e2, t_OB.to (V := updV (vp_V fs) n v) ⟨_, w1, q2, q3, t_set q4 hap hk v⟩ (fun j _ => vp_updV_set (by rw [e2]; exact hk) v j)⟩ w3) (hS.set ha (by omega) (fun q _ hq => w3 q hq)) (hN.set ha) (g_L.set hL ha) hl
  have hcf : m.cls = cf := by
    rw [f1, f2] at hlay
    rw [f2] at hi
    exact laid_decl hown hlay hi
  have hlink : (Cond.fieldLink own i (r'.2.1 n).1 (r'.2.1 n).2.1 (r'.2.1 n).2.2.1).before args s = true := by
    rw [f2]
    exact g_w h0 hW hlw rfl
  exact W.putFinK hx hb hown hlink hi hst hcf hnm (by rw [q2]; exact h6) q1 q3 (by rw [hsl]; exact k2_hasslot (q4 n hk)) rfl rfl d kk
theorem ri_ireturn (h : gF Z cc own (some .int) tb nm) {v : Int32} (d : decode cc pc = .ok (.ireturn, 1)) (hc : cl ≤ Z.2.2.1.1) (hs : sl ≤ Z.2.2.1.2.1) (hF : Z.2.2.2.1 (.inl (some (.int v))) M) : G Z pc ls [.int v] M cl sl := by
  obtain ⟨⟨D, s0⟩, ⟨p, l, e, R, s, m, args, below, meth, c⟩, ⟨mc, ms, fr, lo⟩, F, nL⟩ := Z
  obtain ⟨hx, hb, hml, hr, hlk, hown, htb, hnm, hR, h0, hW, hsh⟩ := h
  intro H locs arr hP hS hN hL hl
  refine W.widen hc hs (vx_ret (W.iret hx hb hr (fun t ht _ => ⟨_, M, rfl, hF, by rw [ht]; exact hP, by rw [ht]; exact hS, hN⟩) hL d (hlocks := hlk)))
theorem ri_zreturn (h : gF Z cc own (some .boolean) tb nm) {v : Int32} (d : decode cc pc = .ok (.ireturn, 1)) (hc : cl ≤ Z.2.2.1.1) (hs : sl ≤ Z.2.2.1.2.1) (hv : narrow .boolean (.int v) = .int v) (hF : Z.2.2.2.1 (.inl (some (.int v))) M) : G Z pc ls [.int v] M cl sl := by
  obtain ⟨⟨D, s0⟩, ⟨p, l, e, R, s, m, args, below, meth, c⟩, ⟨mc, ms, fr, lo⟩, F, nL⟩ := Z
  obtain ⟨hx, hb, hml, hr, hlk, hown, htb, hnm, hR, h0, hW, hsh⟩ := h
  intro H locs arr hP hS hN hL hl
  refine W.widen hc hs (vx_ret (W.zret hx hb hr hv (fun t ht _ => ⟨_, M, rfl, hF, by rw [ht]; exact hP, by rw [ht]; exact hS, hN⟩) hL d (hlocks := hlk)))
theorem ri_lreturn (h : gF Z cc own (some .long) tb nm) {v : Int64} (d : decode cc pc = .ok (.lreturn, 1)) (hc : cl ≤ Z.2.2.1.1) (hs : sl ≤ Z.2.2.1.2.1) (hF : Z.2.2.2.1 (.inl (some (.long v))) M) : G Z pc ls [.long v] M cl sl := by
  obtain ⟨⟨D, s0⟩, ⟨p, l, e, R, s, m, args, below, meth, c⟩, ⟨mc, ms, fr, lo⟩, F, nL⟩ := Z
  obtain ⟨hx, hb, hml, hr, hlk, hown, htb, hnm, hR, h0, hW, hsh⟩ := h
  intro H locs arr hP hS hN hL hl
  refine W.widen hc hs (vx_ret (W.lret hx hb hr (fun t ht _ => ⟨_, M, rfl, hF, by rw [ht]; exact hP, by rw [ht]; exact hS, hN⟩) hL d (hlocks := hlk)))
theorem ri_return (h : gF Z cc own none tb nm) (d : decode cc pc = .ok (.return_, 1)) (hc : cl ≤ Z.2.2.1.1) (hs : sl ≤ Z.2.2.1.2.1) (hF : Z.2.2.2.1 (.inl none) M) : G Z pc ls [] M cl sl := by
  obtain ⟨⟨D, s0⟩, ⟨p, l, e, R, s, m, args, below, meth, c⟩, ⟨mc, ms, fr, lo⟩, F, nL⟩ := Z
  obtain ⟨hx, hb, hml, hr, hlk, hown, htb, hnm, hR, h0, hW, hsh⟩ := h
  intro H locs arr hP hS hN hL hl
  refine W.widen hc hs (vx_ret (W.vret hx hb hr (fun t ht _ => ⟨_, M, rfl, hF, by rw [ht]; exact hP, by rw [ht]; exact hS, hN⟩) hL d (hlocks := hlk)))
theorem ri_areturn {rt : FieldType} (h : gF Z cc own (some rt) tb nm) (hrt : (∃ n, rt = .object n) ∨ ∃ t, rt = .array t) {a : Nat} (d : decode cc pc = .ok (.areturn, 1)) (hc : cl ≤ Z.2.2.1.1) (hs : sl ≤ Z.2.2.1.2.1) (hF : Z.2.2.2.1 (.inl (some (.ref a))) M) : G Z pc ls [.ref a] M cl sl := by
  obtain ⟨⟨D, s0⟩, ⟨p, l, e, R, s, m, args, below, meth, c⟩, ⟨mc, ms, fr, lo⟩, F, nL⟩ := Z
  obtain ⟨hx, hb, hml, hr, hlk, hown, htb, hnm, hR, h0, hW, hsh⟩ := h
  intro H locs arr hP hS hN hL hl
  refine W.widen hc hs (vx_ret (W.aret hx hb hr hrt (Or.inr ⟨a, rfl⟩) (fun t ht _ => ⟨_, M, rfl, hF, by rw [ht]; exact hP, by rw [ht]; exact hS, hN⟩) hL d (hlocks := hlk)))
end GR
