/-! THE LAYER, 4: throws. -/
theorem g_zU {l : Launch} {D : gD} {s0 : State} (h0 : g_0 l D s0) : vx_Zq Bundle.tN "UNASSIGNED_STACK" Bundle.steD (fun q => s0.heap.size ≤ q) s0 s0.heap := by
  obtain ⟨-, -, a0, ha, hg⟩ := h0
  exact vx_Zqof (ha _ (by decide +kernel)) (ha _ (by decide +kernel)) (flat_of_before _ hg _ (by decide +kernel)) (fun a h => Nat.not_le.mpr h)
theorem g_zN {l : Launch} {D : gD} {s0 : State} (h0 : g_0 l D s0) : vx_Zq Bundle.tN "SUPPRESSED_SENTINEL" Bundle.listD (fun q => s0.heap.size ≤ q) s0 s0.heap := by
  obtain ⟨-, -, a0, ha, hg⟩ := h0
  exact vx_Zqof (ha _ (by decide +kernel)) (ha _ (by decide +kernel)) (flat_of_before _ hg _ (by decide +kernel)) (fun a h => Nat.not_le.mpr h)
abbrev gEN : List String := ["java/lang/RuntimeException", "java/lang/Exception"]
/-- the words of 'throw new cls(text)' -/
def gTW (own : String) (ik is ic : Nat) (cls text : String) : Prop := Cond.classLink own ik cls ∈ lw_tbl ∧ Cond.initialized cls ∈ lw_tbl ∧ Cond.stringRef own is text ∈ lw_tbl ∧ (∀ (a0 : Array Value) (s0 : State), (Jvm.Cond.and given_1 narrow_1).before a0 s0 = true → (Cond.exactly (.string own is) "java/lang/String").before a0 s0 = true) ∧ Bundle.fit cls = true ∧ (∀ w ∈ vx_atS own ic cls gEN, w ∈ lw_tbl ∧ gOk w = true ∧ vx_ot w = true) ∧ vx_ot (Cond.classLink own ik cls) = true ∧ vx_ot (Cond.initialized cls) = true
section GT
variable {D : gD} {s0 : State} {p : Program} {l : Launch} {e : Env} {R : Room} {s : State} {m : MethodId} {args : Array Value} {below : List Frame} {meth : Method} {c : Code} {mc ms fr lo nL : Nat} {F : gR → gH → Prop}
variable {cc : ByteArray} {own nm : String} {ret : Option FieldType} {tb : List ExceptionTableEntry} {pc cl sl : Nat} {ls : List (Nat × Value)} {st : List Value} {M : gH}
theorem g_vS {T : State} {locs : List Loc} (hsh : g_S s0 s.heap) (hS : g_S s0 T.heap) (hL : ∀ z ∈ locs, s0.heap.size ≤ z.base) (X : Stand p l e R s m args below meth c T locs cl sl) : va_S (fun q : Nat => s0.heap.size ≤ q) s.heap T.heap locs := by
  refine ⟨X.same.2.1, fun q hq hn => ?_, hL⟩
  have hq0 : q < s0.heap.size := Nat.not_le.mp hn
  rw [hS.2 q hq0, hsh.2 q hq0]
theorem ri_throw (h : gF ((D, s0), (p, l, e, R, s, m, args, below, meth, c), (mc, ms, fr, lo), F, nL) cc own ret [] nm) {ik is ic : Nat} {cls text : String} (hw : gTW own ik is ic cls text)
    (d0 : decode cc pc = .ok (.new ik, 3)) (d3 : decode cc (pc + 3) = .ok (.dup, 1)) (d4 : decode cc (pc + 4) = .ok (.ldc is, 2)) (d6 : decode cc (pc + 6) = .ok (.invokespecial ic, 3)) (d9 : decode cc (pc + 9) = .ok (.athrow, 1))
    (hfr : 6 ≤ fr) (hlo : (st.map fun v => v.category).sum + 82 ≤ lo) (hc : cl + 1 ≤ mc) (hs : sl + 6 ≤ ms) (hF : F (.inr cls) M) : G ((D, s0), (p, l, e, R, s, m, args, below, meth, c), (mc, ms, fr, lo), F, nL) pc ls st M cl sl := by
  obtain ⟨hx, hb, hml, hr, hlk, hown, htb, hnm, hR, h0, hW, hsh⟩ := h
  intro H locs arr hP hS hN hL hl
  subst hR
  obtain ⟨w1, w2, w3, w4, w5, w6, w7, w8⟩ := hw
  intro T hT X
  obtain ⟨a0, ha, hg⟩ := h0.2.2
  obtain ⟨sa, -, -, -, hsa, -⟩ := Cond.exactly_spec (w4 a0 s0 hg)
  have hstr : vk_R own is text sa s := vk_R.warm hW (vk_R.of (ha _ w3) hsa)
  refine vx_throwS (Qc := gQ D s0 F) (XC := gX D s0 F) (free := fun q => s0.heap.size ≤ q) (A := fun q => s0.heap.size ≤ q) (names := gEN) hx hb h0.1 hown w5 (by decide) (g_w h0 hW w1 rfl) (g_w h0 hW w2 rfl) hstr (fun w hw => g_wn h0 hW (w6 w hw).1 (w6 w hw).2.1) ?_
    (vx_Zq.kept (vx_Zq.moved hW.alike (g_zU h0)) (g_kept hsh)) (vx_Zq.kept (vx_Zq.moved hW.alike (g_zN h0)) (g_kept hsh)) (by rw [← hT] at hS ⊢; exact g_vS hsh hS hL X) (by rw [hml]; exact hl.1) d0 d3 d4 d6 d9 (by rw [htb]; intro x hx; cases hx) (show 2 + 3 < fr by omega) (show _ + (13 * (2 + 1) + 43) ≤ lo by omega) hc hs hlk ?_ hL hc hs T hT X
  · intro w hw
    rcases List.mem_cons.mp hw with rfl | hw
    · exact w7
    · rcases List.mem_cons.mp hw with rfl | hw
      · exact w8
      · exact (w6 w hw).2.2
  · intro t _ hz hq
    exact ⟨M, hF, fun a x hx => (hP a x hx).kept (hq a (hP a x hx).lt), ⟨Nat.le_trans hS.1 hz, fun q h9 => by rw [hq q (Nat.lt_of_lt_of_le h9 hS.1)]; exact hS.2 q h9⟩, hN⟩
theorem ri_throwW (h : gF ((D, s0), (p, l, e, R, s, m, args, below, meth, c), (mc, ms, fr, lo), F, nL) cc own ret [] nm) {ik is ic : Nat} {cls text : String} (hw : gTW own ik is ic cls text)
    (d0 : decode cc pc = .ok (.new ik, 3)) (d3 : decode cc (pc + 3) = .ok (.dup, 1)) (d4 : decode cc (pc + 4) = .ok (.ldc_w is, 3)) (d6 : decode cc (pc + 7) = .ok (.invokespecial ic, 3)) (d9 : decode cc (pc + 10) = .ok (.athrow, 1))
    (hfr : 6 ≤ fr) (hlo : (st.map fun v => v.category).sum + 82 ≤ lo) (hc : cl + 1 ≤ mc) (hs : sl + 6 ≤ ms) (hF : F (.inr cls) M) : G ((D, s0), (p, l, e, R, s, m, args, below, meth, c), (mc, ms, fr, lo), F, nL) pc ls st M cl sl := by
  obtain ⟨hx, hb, hml, hr, hlk, hown, htb, hnm, hR, h0, hW, hsh⟩ := h
  intro H locs arr hP hS hN hL hl
  subst hR
  obtain ⟨w1, w2, w3, w4, w5, w6, w7, w8⟩ := hw
  intro T hT X
  obtain ⟨a0, ha, hg⟩ := h0.2.2
  obtain ⟨sa, -, -, -, hsa, -⟩ := Cond.exactly_spec (w4 a0 s0 hg)
  have hstr : vk_R own is text sa s := vk_R.warm hW (vk_R.of (ha _ w3) hsa)
  refine vx_throwSW (Qc := gQ D s0 F) (XC := gX D s0 F) (free := fun q => s0.heap.size ≤ q) (A := fun q => s0.heap.size ≤ q) (names := gEN) hx hb h0.1 hown w5 (by decide) (g_w h0 hW w1 rfl) (g_w h0 hW w2 rfl) hstr (fun w hw => g_wn h0 hW (w6 w hw).1 (w6 w hw).2.1) ?_
    (vx_Zq.kept (vx_Zq.moved hW.alike (g_zU h0)) (g_kept hsh)) (vx_Zq.kept (vx_Zq.moved hW.alike (g_zN h0)) (g_kept hsh)) (by rw [← hT] at hS ⊢; exact g_vS hsh hS hL X) (by rw [hml]; exact hl.1) d0 d3 d4 d6 d9 (by rw [htb]; intro x hx; cases hx) (show 2 + 3 < fr by omega) (show _ + (13 * (2 + 1) + 43) ≤ lo by omega) hc hs hlk ?_ hL hc hs T hT X
  · intro w hw
    rcases List.mem_cons.mp hw with rfl | hw
    · exact w7
    · rcases List.mem_cons.mp hw with rfl | hw
      · exact w8
      · exact (w6 w hw).2.2
  · intro t _ hz hq
    exact ⟨M, hF, fun a x hx => (hP a x hx).kept (hq a (hP a x hx).lt), ⟨Nat.le_trans hS.1 hz, fun q h9 => by rw [hq q (Nat.lt_of_lt_of_le h9 hS.1)]; exact hS.2 q h9⟩, hN⟩
end GT
theorem tw_62 : gTW "ShapeTrees" 60 62 64 "java/lang/IllegalStateException" "no more cells" := ⟨List.mem_of_getElem? (i := 223) (by decide +kernel), List.mem_of_getElem? (i := 54) (by decide +kernel), List.mem_of_getElem? (i := 265) (by decide +kernel), fun a0 s0 h => flat_of_before _ h _ (by decide +kernel), by decide, by decide +kernel, by decide, by decide⟩
theorem tw_244 : gTW "ShapeTrees" 131 244 135 "java/lang/IndexOutOfBoundsException" "no such cell" := ⟨List.mem_of_getElem? (i := 397) (by decide +kernel), List.mem_of_getElem? (i := 59) (by decide +kernel), List.mem_of_getElem? (i := 406) (by decide +kernel), fun a0 s0 h => flat_of_before _ h _ (by decide +kernel), by decide, by decide +kernel, by decide, by decide⟩
theorem tw_254 : gTW "ShapeTrees" 131 254 135 "java/lang/IndexOutOfBoundsException" "no such layer" := ⟨List.mem_of_getElem? (i := 397) (by decide +kernel), List.mem_of_getElem? (i := 59) (by decide +kernel), List.mem_of_getElem? (i := 431) (by decide +kernel), fun a0 s0 h => flat_of_before _ h _ (by decide +kernel), by decide, by decide +kernel, by decide, by decide⟩
theorem tw_256 : gTW "ShapeTrees" 60 256 64 "java/lang/IllegalStateException" "no more shapes" := ⟨List.mem_of_getElem? (i := 223) (by decide +kernel), List.mem_of_getElem? (i := 54) (by decide +kernel), List.mem_of_getElem? (i := 436) (by decide +kernel), fun a0 s0 h => flat_of_before _ h _ (by decide +kernel), by decide, by decide +kernel, by decide, by decide⟩
theorem tw_252 : gTW "ShapeTrees" 131 252 135 "java/lang/IndexOutOfBoundsException" "no such polygon or path" := ⟨List.mem_of_getElem? (i := 397) (by decide +kernel), List.mem_of_getElem? (i := 59) (by decide +kernel), List.mem_of_getElem? (i := 508) (by decide +kernel), fun a0 s0 h => flat_of_before _ h _ (by decide +kernel), by decide, by decide +kernel, by decide, by decide⟩
theorem tw_246 : gTW "ShapeTrees" 131 246 135 "java/lang/IndexOutOfBoundsException" "no such shape" := ⟨List.mem_of_getElem? (i := 397) (by decide +kernel), List.mem_of_getElem? (i := 59) (by decide +kernel), List.mem_of_getElem? (i := 503) (by decide +kernel), fun a0 s0 h => flat_of_before _ h _ (by decide +kernel), by decide, by decide +kernel, by decide, by decide⟩
theorem tw_271 : gTW "ShapeTrees" 60 271 64 "java/lang/IllegalStateException" "no more corners or points" := ⟨List.mem_of_getElem? (i := 223) (by decide +kernel), List.mem_of_getElem? (i := 54) (by decide +kernel), List.mem_of_getElem? (i := 512) (by decide +kernel), fun a0 s0 h => flat_of_before _ h _ (by decide +kernel), by decide, by decide +kernel, by decide, by decide⟩
theorem tw_262 : gTW "ShapeTrees" 106 262 110 "java/lang/IllegalArgumentException" "out of range" := ⟨List.mem_of_getElem? (i := 518) (by decide +kernel), List.mem_of_getElem? (i := 63) (by decide +kernel), List.mem_of_getElem? (i := 527) (by decide +kernel), fun a0 s0 h => flat_of_before _ h _ (by decide +kernel), by decide, by decide +kernel, by decide, by decide⟩
theorem tw_108 : gTW "ShapeTrees" 106 108 110 "java/lang/IllegalArgumentException" "no such width" := ⟨List.mem_of_getElem? (i := 518) (by decide +kernel), List.mem_of_getElem? (i := 63) (by decide +kernel), List.mem_of_getElem? (i := 583) (by decide +kernel), fun a0 s0 h => flat_of_before _ h _ (by decide +kernel), by decide, by decide +kernel, by decide, by decide⟩
theorem tw_111 : gTW "ShapeTrees" 106 111 110 "java/lang/IllegalArgumentException" "no such ends" := ⟨List.mem_of_getElem? (i := 518) (by decide +kernel), List.mem_of_getElem? (i := 63) (by decide +kernel), List.mem_of_getElem? (i := 584) (by decide +kernel), fun a0 s0 h => flat_of_before _ h _ (by decide +kernel), by decide, by decide +kernel, by decide, by decide⟩
theorem tw_113 : gTW "ShapeTrees" 60 113 64 "java/lang/IllegalStateException" "no more places" := ⟨List.mem_of_getElem? (i := 223) (by decide +kernel), List.mem_of_getElem? (i := 54) (by decide +kernel), List.mem_of_getElem? (i := 599) (by decide +kernel), fun a0 s0 h => flat_of_before _ h _ (by decide +kernel), by decide, by decide +kernel, by decide, by decide⟩
theorem tw_119 : gTW "ShapeTrees" 106 119 110 "java/lang/IllegalArgumentException" "no such turn" := ⟨List.mem_of_getElem? (i := 518) (by decide +kernel), List.mem_of_getElem? (i := 63) (by decide +kernel), List.mem_of_getElem? (i := 600) (by decide +kernel), fun a0 s0 h => flat_of_before _ h _ (by decide +kernel), by decide, by decide +kernel, by decide, by decide⟩
theorem tw_133 : gTW "ShapeTrees" 131 133 135 "java/lang/IndexOutOfBoundsException" "no such place" := ⟨List.mem_of_getElem? (i := 397) (by decide +kernel), List.mem_of_getElem? (i := 59) (by decide +kernel), List.mem_of_getElem? (i := 666) (by decide +kernel), fun a0 s0 h => flat_of_before _ h _ (by decide +kernel), by decide, by decide +kernel, by decide, by decide⟩
theorem tw_136 : gTW "ShapeTrees" 106 136 110 "java/lang/IllegalArgumentException" "no such columns or rows" := ⟨List.mem_of_getElem? (i := 518) (by decide +kernel), List.mem_of_getElem? (i := 63) (by decide +kernel), List.mem_of_getElem? (i := 667) (by decide +kernel), fun a0 s0 h => flat_of_before _ h _ (by decide +kernel), by decide, by decide +kernel, by decide, by decide⟩
theorem tw_158 : gTW "ShapeTrees" 131 158 135 "java/lang/IndexOutOfBoundsException" "no such side" := ⟨List.mem_of_getElem? (i := 397) (by decide +kernel), List.mem_of_getElem? (i := 59) (by decide +kernel), List.mem_of_getElem? (i := 679) (by decide +kernel), fun a0 s0 h => flat_of_before _ h _ (by decide +kernel), by decide, by decide +kernel, by decide, by decide⟩
theorem tw_165 : gTW "ShapeTrees" 60 165 64 "java/lang/IllegalStateException" "no shapes on the layer" := ⟨List.mem_of_getElem? (i := 223) (by decide +kernel), List.mem_of_getElem? (i := 54) (by decide +kernel), List.mem_of_getElem? (i := 729) (by decide +kernel), fun a0 s0 h => flat_of_before _ h _ (by decide +kernel), by decide, by decide +kernel, by decide, by decide⟩
theorem tw_266 : gTW "ShapeTrees" 264 266 268 "java/lang/UnsupportedOperationException" "too many shapes laid flat" := ⟨List.mem_of_getElem? (i := 745) (by decide +kernel), List.mem_of_getElem? (i := 66) (by decide +kernel), List.mem_of_getElem? (i := 754) (by decide +kernel), fun a0 s0 h => flat_of_before _ h _ (by decide +kernel), by decide, by decide +kernel, by decide, by decide⟩
theorem tw_185 : gTW "ShapeTrees" 131 185 135 "java/lang/IndexOutOfBoundsException" "no such shape at hand" := ⟨List.mem_of_getElem? (i := 397) (by decide +kernel), List.mem_of_getElem? (i := 59) (by decide +kernel), List.mem_of_getElem? (i := 793) (by decide +kernel), fun a0 s0 h => flat_of_before _ h _ (by decide +kernel), by decide, by decide +kernel, by decide, by decide⟩
theorem tw_191 : gTW "ShapeTrees" 131 191 135 "java/lang/IndexOutOfBoundsException" "no such corner" := ⟨List.mem_of_getElem? (i := 397) (by decide +kernel), List.mem_of_getElem? (i := 59) (by decide +kernel), List.mem_of_getElem? (i := 794) (by decide +kernel), fun a0 s0 h => flat_of_before _ h _ (by decide +kernel), by decide, by decide +kernel, by decide, by decide⟩
theorem tw_193 : gTW "ShapeTrees" 131 193 135 "java/lang/IndexOutOfBoundsException" "no such axis" := ⟨List.mem_of_getElem? (i := 397) (by decide +kernel), List.mem_of_getElem? (i := 59) (by decide +kernel), List.mem_of_getElem? (i := 795) (by decide +kernel), fun a0 s0 h => flat_of_before _ h _ (by decide +kernel), by decide, by decide +kernel, by decide, by decide⟩
theorem tw_212 : gTW "ShapeTrees" 106 212 110 "java/lang/IllegalArgumentException" "the box is inside out" := ⟨List.mem_of_getElem? (i := 518) (by decide +kernel), List.mem_of_getElem? (i := 63) (by decide +kernel), List.mem_of_getElem? (i := 889) (by decide +kernel), fun a0 s0 h => flat_of_before _ h _ (by decide +kernel), by decide, by decide +kernel, by decide, by decide⟩
