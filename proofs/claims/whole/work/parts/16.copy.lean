/-! System.arraycopy -/
section G6
variable {D : gD} {s0 : State} {p : Program} {l : Launch} {e : Env} {R : Room} {s : State} {m : MethodId} {args : Array Value} {below : List Frame} {meth : Method} {c : Code} {mc ms fr lo nL : Nat} {F : gR → gH → Prop}
variable {cc : ByteArray} {own nm : String} {ret : Option FieldType} {tb : List ExceptionTableEntry} {pc cl sl : Nat} {ls : List (Nat × Value)} {st : List Value} {M : gH}
theorem ri_copy {α : Type} (mk : α → Value) (h : gF ((D, s0), (p, l, e, R, s, m, args, below, meth, c), (mc, ms, fr, lo), F, nL) cc own ret tb nm) {i0 a0 a n0 n1 : Nat} (kd sp dp n : Nat) {f g : Nat → α} {xs xd xn : Int32} (d : decode cc pc = .ok (.invokestatic i0, 3)) (hw : Cond.methodLink own i0 arraycopyName ∈ lw_tbl)
    (hM0 : M a0 = some (.inl (kd, n0, fun j => mk (f j)))) (hM1 : M a = some (.inl (kd, n1, fun j => mk (g j)))) (hs0 : xs = nI sp) (hd0 : xd = nI dp) (hn0 : xn = nI n) (h4 : sp + n ≤ n0) (h5 : dp + n ≤ n1) (hz : n0 < 2147483648) (hz1 : n1 < 2147483648)
    (hv : ∀ i, i < n → (∃ x, mk (f (sp + i)) = .int x ∧ kd = 0) ∨ (mk (f (sp + i)) = .null ∧ kd = 3) ∨ ∃ y ci vs, mk (f (sp + i)) = .ref y ∧ M y = some (.inr (ci, vs)) ∧ gFit ci kd)
    (hfr : 1 ≤ fr) (hlo : (st.map fun v => v.category).sum + (nativeFrameWords "java/lang/System" "arraycopy" 5 + 11) ≤ lo)
    (k : G ((D, s0), (p, l, e, R, s, m, args, below, meth, c), (mc, ms, fr, lo), F, nL) (pc + 3) ls st (gup M a (.inl (kd, n1, fun j => mk (va_cpy f g sp dp n j)))) cl sl) : G ((D, s0), (p, l, e, R, s, m, args, below, meth, c), (mc, ms, fr, lo), F, nL) pc ls (.int xn :: .int xd :: .ref a :: .int xs :: .ref a0 :: st) M cl sl := by
  obtain ⟨hx, hb, hml, hr, hlk, hown, htb, hnm, hR, h0, hW, hsh⟩ := h
  intro H locs arr hP hS hN hL hl
  subst hR; subst hs0; subst hd0; subst hn0
  obtain ⟨hkd, hc0⟩ := hP a0 _ hM0
  obtain ⟨-, hc1⟩ := hP a _ hM1
  have hKk := (h0.2.1.moved hW.alike).2 kd hkd
  have ha := hN a _ hM1
  have cs : (nI sp).toNatClampNeg = sp := nI_clamp (by omega)
  have cd : (nI dp).toNatClampNeg = dp := nI_clamp (by omega)
  have cn : (nI n).toNatClampNeg = n := nI_clamp (by omega)
  intro T hT X
  obtain ⟨-, k0, hk0, cm0, hkk0⟩ := hKk.1 n0 (fun j => mk (f j))
  obtain ⟨-, k1, hk1, cm1, hkk1⟩ := hKk.1 n1 (fun j => mk (g j))
  have hk01 : k0 = k1 := Option.some.inj (hk0.symm.trans hk1)
  subst hk01
  obtain ⟨vm', X', step⟩ := X.arraycopy hx (own := own) (index := i0) hown (g_w h0 hW hw rfl) (g_w h0 hW (w := .native arraycopyName) (by decide +kernel) rfl) (g_w h0 hW (w := .static arraycopyName) (by decide +kernel) rfl) (g_w h0 hW (w := .initialized "java/lang/System") (by decide +kernel) rfl) (src := a0) (dst := a) (cs := arrV (D.2.2 kd) n0 (fun j => mk (f j))) (cd := arrV (D.2.2 kd) n1 (fun j => mk (g j))) (srcPos := nI sp) (destPos := nI dp) (n := nI n) (by rw [hT]; exact hc0) (by rw [hT]; exact hc1)
    (fun _ h => by cases h) (fun _ h => by cases h) (fun h => by cases h) (fun h => by cases h) hk0 hk1 hkk0 hkk1 (by simp) (nI_pos (by omega)) (nI_pos (by omega)) (nI_pos (by omega))
    (by rw [nI_toInt (by omega), nI_toInt (by omega), arrV_size]; omega)
    (by rw [nI_toInt (by omega), nI_toInt (by omega), arrV_size]; omega)
    (fun vm₁ hal i hi => by
      rw [cn] at hi
      have e : (arrV (D.2.2 kd) n0 (fun j => mk (f j))).slots.getD ((nI sp).toNatClampNeg + i) .null = mk (f (sp + i)) := by
        rw [cs, Array.getD_eq_getD_getElem?, arrV_read _ _ (by omega)]
        rfl
      rw [e]
      rcases hv i hi with ⟨x, hq, rfl⟩ | ⟨hq, rfl⟩ | ⟨y, ci, vs, hq, hMy, r, E, f1, f2, f3, f4⟩
      · rw [hq]; exact ⟨rfl, trivial⟩
      · rw [hq]; exact ⟨rfl, trivial⟩
      · rw [hq]
        obtain ⟨cellV, g1, g2, g3⟩ := g_recv (h0.2.1.moved hW.alike) hP hMy f1
        have hca : va_Nw (.castable r.1 E) s := by
          obtain ⟨-, -, a0, ha, -⟩ := h0
          exact va_Nw.warmC hW (va_Nw.of rfl (ha _ f4))
        obtain ⟨c0, t0, q1, q2, q3⟩ := Cond.castable_spec (va_Nw.use (A := args) rfl hca)
        cases g3.symm.trans q1
        have hRA := hKk.2
        rw [f3] at hRA
        obtain ⟨kA, comp, r1, r2, r3, -⟩ := hRA
        cases hk1.symm.trans r1
        have hcm := hkk1.symm.trans r2
        injection hcm with hcm _
        subst hcm
        cases q2.symm.trans r3
        obtain ⟨kC, hkC, -⟩ := Vm.findClass_spec g3
        obtain ⟨kE, hkE, -⟩ := Vm.findClass_spec r3
        obtain ⟨kC', hkC', -⟩ := hal.2.2 _ _ hkC
        obtain ⟨kE', hkE', -⟩ := hal.2.2 _ _ hkE
        refine ⟨by rw [f3]; rfl, cellV, (show T.heap[y]? = some cellV by rw [hT]; exact g1), (fun q h => by rw [h] at g2; cases g2), ⟨kC', hkC'⟩, ?_, ?_⟩
        · exact ⟨kE', hkE'⟩
        · show vm₁.assignable _ _ = true
          rw [hal.assignable]
          exact q3)
    (g := F0 m pc arr (.int (nI n) :: .int (nI dp) :: .ref a :: .int (nI sp) :: .ref a0 :: st)) rfl (by rw [hml]; exact hl.1) (rest := st) rfl (by rw [hb]; exact d) hfr (by show 2 * 0 + _ + _ ≤ lo; omega)
  have e1 : copied (arrV (D.2.2 kd) n0 (fun j => mk (f j))) (arrV (D.2.2 kd) n1 (fun j => mk (g j))) (nI sp) (nI dp) (nI n) = arrV (D.2.2 kd) n1 (fun j => mk (va_cpy f g sp dp n j)) := by
    have := va_copied mk (D.2.2 kd) (D.2.2 kd) (n1 := n1) (dp := dp) f g h4
    unfold copied
    rw [cs, cd, cn]
    exact this
  rw [e1] at X' step
  have hlt : a < H.size := (Array.getElem?_eq_some_iff.mp hc1).1
  have oq : ∀ q : Nat, q ≠ a → (H.setIfInBounds a (arrV (D.2.2 kd) n1 (fun j => mk (va_cpy f g sp dp n j))))[q]? = H[q]? := fun q hq => by simp [Array.getElem?_setIfInBounds, Ne.symm hq]
  obtain ⟨t, a1, b1⟩ := k (H.setIfInBounds a (arrV (D.2.2 kd) n1 (fun j => mk (va_cpy f g sp dp n j)))) _ arr (hP.set ⟨hkd, by simp [Array.getElem?_setIfInBounds, hlt]⟩ oq) (hS.set ha (by simp) (fun q _ hq => oq q hq)) (hN.set ha) (fun z hz => by
      rcases List.mem_append.mp hz with h9 | h9
      · exact hL z h9
      · obtain ⟨w9, -, hw9⟩ := List.mem_map.mp h9
        rw [← hw9]
        exact ha) hl _ (by rw [← hT]; rfl) X'
  exact ⟨t, step t a1, b1⟩
theorem ri_null (h : gF ((D, s0), (p, l, e, R, s, m, args, below, meth, c), (mc, ms, fr, lo), F, nL) cc own ret tb nm) (d : decode cc pc = .ok (.aconst_null, 1)) (k : G ((D, s0), (p, l, e, R, s, m, args, below, meth, c), (mc, ms, fr, lo), F, nL) (pc + 1) ls (.null :: st) M cl sl) : G ((D, s0), (p, l, e, R, s, m, args, below, meth, c), (mc, ms, fr, lo), F, nL) pc ls st M cl sl := by
  obtain ⟨hx, hb, -⟩ := h
  intro H locs arr hP hS hN hL hl
  exact lv_null hx hb d (k H locs arr hP hS hN hL hl)
theorem ri_ishr (h : gF ((D, s0), (p, l, e, R, s, m, args, below, meth, c), (mc, ms, fr, lo), F, nL) cc own ret tb nm) {x y : Int32} (d : decode cc pc = .ok (.ishr, 1)) (k : G ((D, s0), (p, l, e, R, s, m, args, below, meth, c), (mc, ms, fr, lo), F, nL) (pc + 1) ls (.int (x >>> (y &&& 31)) :: st) M cl sl) : G ((D, s0), (p, l, e, R, s, m, args, below, meth, c), (mc, ms, fr, lo), F, nL) pc ls (.int y :: .int x :: st) M cl sl := by
  obtain ⟨hx, hb, -⟩ := h
  intro H locs arr hP hS hN hL hl
  exact lv_ishr hx hb d (k H locs arr hP hS hN hL hl)
end G6
