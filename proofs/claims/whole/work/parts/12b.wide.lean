/-! a static call over a heavier stack -/
section GW
variable {D : gD} {s0 : State} {p : Program} {l : Launch} {e : Env} {R : Room} {s : State} {m : MethodId} {args : Array Value} {below : List Frame} {meth : Method} {c : Code} {mc ms fr lo nL : Nat} {F : gR → gH → Prop}
variable {cc : ByteArray} {own nm : String} {ret : Option FieldType} {tb : List ExceptionTableEntry} {pc cl sl : Nat} {ls : List (Nat × Value)} {st : List Value} {M : gH}
theorem ri_cSvw (h : gF ((D, s0), (p, l, e, R, s, m, args, below, meth, c), (mc, ms, fr, lo), F, nL) cc own ret [] nm) {i n maxL : Nat} {y : MethodName} {bytes : ByteArray} {rm : Room} {M0 : gH} {rt : Option FieldType} {w : Value} (As rest : List Value) (d : decode cc pc = .ok (.invokestatic i, 3)) (cw : gCS own i y bytes maxL rt n) (ct : Ct l D s0 y (Cond.code y bytes maxL rt) rm As M (fR (some w) M0)) (hst : As.reverse ++ rest = st) (hn : As.length = n) (hw8 : (rest.map fun v => v.category).sum ≤ 20) (hfr : rm.frames + 1 ≤ fr) (hlo : 20 + (maxL + 11) + rm.locals ≤ lo) (hcm : cl + rm.cells ≤ mc) (hsm : sl + rm.slots ≤ ms)
    (k : G ((D, s0), (p, l, e, R, s, m, args, below, meth, c), (mc, ms, fr, lo), F, nL) (pc + 3) ls (w :: rest) M0 (cl + rm.cells) (sl + rm.slots)) : G ((D, s0), (p, l, e, R, s, m, args, below, meth, c), (mc, ms, fr, lo), F, nL) pc ls st M cl sl := by
  intro H locs arr hP hS hN hL hl
  obtain ⟨hx, hb, hml, hrt, hlk, hown, htb, hnm, hR, h0, hW, hsh⟩ := id h
  obtain ⟨⟨w1, w2, w3, w4, w5⟩, w6, w7⟩ := cw
  subst hR
  have hK : vx_Back l { frames := fr, cells := mc, slots := ms, locals := lo } p e below s args y 3 20 (PreOf { frames := fr, cells := mc, slots := ms, locals := lo } rm.cells rm.slots (gPc D s0 As M)) (PostOf (gQ D s0 (fR (some w) M0)) rm.cells rm.slots (fun q => s0.heap.size ≤ q)) (vx_Post (gX D s0 (fR (some w) M0)) rm.cells rm.slots (fun q => s0.heap.size ≤ q)) :=
    vx_back (bytes := bytes) (maxL := maxL) (ret := rt) ct (gPc_blind _ _ _ _) rfl rfl hfr hlo (g_code h0 hW w1) List.mem_cons_self (fun a' U hU => g_w h0 (State.WarmedH.trans hW hU) w2 rfl)
  intro T hT X
  rcases vx_callS X hx (bytes := bytes) (maxL := maxL) (ret := rt) hown (g_w h0 hW w6 rfl) (g_w h0 hW w7 rfl) (g_w h0 hW w2 rfl) (g_w h0 hW w1 rfl) ⟨w3, w4⟩ hK (g := F0 m pc arr st) rfl (hl.1.trans hml.symm) (argsL := As) (rest := rest) (fun sig hs => hn.trans (g_sig w5 sig hs)) hst.symm (by show 2 * 0 + _ ≤ 20; omega) (by rw [hb]; exact d)
    (fun vm₁ hW₁ => ⟨hcm, hsm, g_pre hW hP hS hN (T.setVm vm₁) hT hW₁⟩) with ⟨v, vm₁, ⟨U', l2, c2, s2⟩, hW₁, X', ⟨g', mk, t, L, e1, e2, hq, h1, hL', h2, h3⟩, go⟩ | ⟨q, vm₁, ⟨U', l2, c2, s2⟩, hW₁, X', ⟨g', mk, t, L, E, ce, e1, e2, hq, hce, hcv, hcl, h1, hL', h2, h3⟩, go⟩
  · dsimp only [Pt.U, Pt.locs, Pt.cells, Pt.slots] at X' e1 e2 h1 h2 h3 go
    subst h1; subst h2; subst h3
    obtain ⟨v', M', hv, hF, hP', hS', hN'⟩ := hq
    cases hv
    obtain ⟨q1, rfl⟩ := hF
    cases q1
    obtain ⟨t2, a1, b1⟩ := k U'.heap (locs ++ L) arr (by rw [e1]; exact hP') (by rw [e1]; exact hS') hN' (g_L.app hL hL') hl U' rfl X'
    exact ⟨t2, go t2 a1, b1⟩
  · obtain ⟨M', hF, -⟩ := hq
    exact absurd hF (fR_x _ _)
end GW
