/-! cellBox -/
def NW (N N' : MS) : Prop := NE N N' ∧ (∀ j, 3000 ≤ j → N'.i 24 j = N.i 24 j ∧ N'.i 25 j = N.i 25 j) ∧ ∀ j, 72000 ≤ j → N'.l 22 j = N.l 22 j ∧ N'.l 23 j = N.l 23 j
/-- nothing of the boxes -/
def NV (N N' : MS) : Prop := NW N N' ∧ N'.i 42 = N.i 42 ∧ N'.l 41 = N.l 41
section NWs
variable {N N1 N2 : MS}
theorem NW.refl : NW N N := ⟨NE.rfl, fun _ _ => ⟨rfl, rfl⟩, fun _ _ => ⟨rfl, rfl⟩⟩
theorem NW.trans (h : NW N N1) (h2 : NW N1 N2) : NW N N2 := ⟨h.1.trans h2.1, fun j hj => ⟨(h2.2.1 j hj).1.trans (h.2.1 j hj).1, (h2.2.1 j hj).2.trans (h.2.1 j hj).2⟩, fun j hj => ⟨(h2.2.2 j hj).1.trans (h.2.2 j hj).1, (h2.2.2 j hj).2.trans (h.2.2 j hj).2⟩⟩
theorem NV.trans (h : NV N N1) (h2 : NV N1 N2) : NV N N2 := ⟨h.1.trans h2.1, h2.2.1.trans h.2.1, h2.2.2.trans h.2.2⟩
theorem NO.nv (h : NO 0 N N1) : NV N N1 := ⟨⟨h.1, fun j hj => h.2.2.2.1 j (Or.inr (by omega)), fun j hj => h.2.2.2.2 j (Or.inr (by omega))⟩, (h.2.2.1 42 (by omega)).1, (h.2.2.1 41 (by omega)).2⟩
theorem NV.st {b : BxR} {e : Int32} : NV N (mst N b e) := ⟨⟨NE.rfl, fun _ _ => ⟨rfl, rfl⟩, fun _ _ => ⟨rfl, rfl⟩⟩, rfl, rfl⟩
theorem NV.dep {v : Int32} : NV N (N.set_depth v) := ⟨⟨NE.rfl, fun _ _ => ⟨rfl, rfl⟩, fun _ _ => ⟨rfl, rfl⟩⟩, rfl, rfl⟩
theorem NV.pp {a b : Int64} : NV N ((N.set_px a).set_py b) := ⟨⟨NE.rfl, fun _ _ => ⟨rfl, rfl⟩, fun _ _ => ⟨rfl, rfl⟩⟩, rfl, rfl⟩
theorem NV.si (f : Nat) (hf : 26 ≤ f) (hf2 : f ≠ 42) {g : Nat → Int32} : NV N (N.set_i (va_up N.i f g)) := ⟨⟨NE.i f (by omega) g, fun j hj => ⟨congrFun (va_up_n (g := N.i) (by omega)) j, congrFun (va_up_n (g := N.i) (by omega)) j⟩, fun _ _ => ⟨rfl, rfl⟩⟩, va_up_n (g := N.i) (by omega), rfl⟩
end NWs
abbrev bxv (N : MS) (x : Nat) : BxR := (N.l 41 (4 * x), N.l 41 (4 * x + 1), N.l 41 (4 * x + 2), N.l 41 (4 * x + 3), 1 - N.i 42 x)
def bxR (Q : CS) (lay : Int32) (N : MS) (x : Nat) : Prop := HB (bxv N x) (PT Q lay x)
theorem bxR.cong {Q : CS} {lay : Int32} {N N' : MS} {x : Nat} (h : bxR Q lay N x) (e : bxv N' x = bxv N x) : bxR Q lay N' x := by
  unfold bxR
  rw [e]
  exact h
/-- the k-th of sixteen points -/
def kI (r : PlR) (k : Nat) : Nat := if k % 2 = 0 then 0 else r.cols - 1
def kJ (r : PlR) (k : Nat) : Nat := if k / 2 % 2 = 0 then 0 else r.rows - 1
def kX (b : BxR) (k : Nat) : Int64 := if k / 4 % 2 = 0 then b.x0 else b.x1
def kY (b : BxR) (k : Nat) : Int64 := if k / 8 % 2 = 0 then b.y0 else b.y1
def kP (r : PlR) (b : BxR) (k : Nat) : Pts := fun x y => x = r.x.toInt + tXi r.turn (kX b k).toInt (kY b k).toInt + kI r k * r.dx.toInt ∧ y = r.y.toInt + tYi r.turn (kX b k).toInt (kY b k).toInt + kJ r k * r.dy.toInt
theorem kP_all (r : PlR) (b : BxR) (x y : Int) : (∃ k, k < 16 ∧ kP r b k x y) ↔ P16 r b x y := by
  constructor
  · rintro ⟨k, hk, hx, hy⟩
    refine ⟨(kX b k).toInt, (kY b k).toInt, kI r k, kJ r k, ⟨?_, ?_⟩, ?_, ?_, hx, hy⟩
    · unfold kX; split
      · exact Or.inl rfl
      · exact Or.inr rfl
    · unfold kY; split
      · exact Or.inl rfl
      · exact Or.inr rfl
    · unfold kI; split
      · exact Or.inl rfl
      · exact Or.inr rfl
    · unfold kJ; split
      · exact Or.inl rfl
      · exact Or.inr rfl
  · rintro ⟨x', y', i, j, ⟨h1, h2⟩, h3, h4, hx, hy⟩
    have key : ∀ k, k < 16 → x' = (kX b k).toInt → y' = (kY b k).toInt → i = kI r k → j = kJ r k → ∃ k, k < 16 ∧ kP r b k x y := by
      rintro k hk rfl rfl rfl rfl
      exact ⟨k, hk, hx, hy⟩
    rcases h1 with h1 | h1 <;> rcases h2 with h2 | h2 <;> rcases h3 with h3 | h3 <;> rcases h4 with h4 | h4
    · exact key 0 (by decide) h1 h2 h3 h4
    · exact key 2 (by decide) h1 h2 h3 h4
    · exact key 1 (by decide) h1 h2 h3 h4
    · exact key 3 (by decide) h1 h2 h3 h4
    · exact key 8 (by decide) h1 h2 h3 h4
    · exact key 10 (by decide) h1 h2 h3 h4
    · exact key 9 (by decide) h1 h2 h3 h4
    · exact key 11 (by decide) h1 h2 h3 h4
    · exact key 4 (by decide) h1 h2 h3 h4
    · exact key 6 (by decide) h1 h2 h3 h4
    · exact key 5 (by decide) h1 h2 h3 h4
    · exact key 7 (by decide) h1 h2 h3 h4
    · exact key 12 (by decide) h1 h2 h3 h4
    · exact key 14 (by decide) h1 h2 h3 h4
    · exact key 13 (by decide) h1 h2 h3 h4
    · exact key 15 (by decide) h1 h2 h3 h4
theorem an1 : ∀ k : Fin 16, (nI k.val &&& nI 1 = 0 ↔ k.val % 2 = 0) ∧ (nI k.val &&& nI 2 = 0 ↔ k.val / 2 % 2 = 0) ∧ (nI k.val &&& nI 4) / nI 2 = nI (k.val / 4 % 2 * 2) ∧ (nI k.val &&& nI 8) / nI 4 = nI (k.val / 8 % 2 * 2) := by decide +kernel
theorem bth_0 : ∀ t : Fin 8, bth 0 t.val = t.val := by decide +kernel
section CBX
variable {l : Launch} {D : gD} {s0 : State} {M : gH} {z : Nat} {ad : gA} {Q Qc : CS} {N : MS} {lay : Int32}
abbrev cbP (z : Nat) (ad : gA) (Q Qc : CS) (N : MS) (lay : Int32) (c : Nat) : gR → gH → Prop := fS none (fun M' => ∃ N', HS z ad Qc N' M' ∧ NW N N' ∧ (∀ x, x ≠ c → bxv N' x = bxv N x ∧ N'.i 42 x = N.i 42 x) ∧ (N'.i 42 c = 0 ∨ N'.i 42 c = 1) ∧ ((∀ p, p ∈ (Q.ce c).ps → bxR Q lay N (Q.pl p).of) → bxR Q lay N' c))
/-- one of the sixteen -/
theorem k16 (hL : WL Q) {p i j : Nat} (hp : p < Q.nP) (hi : i < (Q.pl p).cols) (hj : j < (Q.pl p).rows) {x y : Int64} (hx : -900000000000 ≤ x.toInt ∧ x.toInt ≤ 900000000000) (hy : -900000000000 ≤ y.toInt ∧ y.toInt ≤ 900000000000) : ((cmpS Q.pl (fun _ => (p, i, j)) 1).2.1 + tX (cmpS Q.pl (fun _ => (p, i, j)) 1).1 x y).toInt = (Q.pl p).x.toInt + tXi (Q.pl p).turn x.toInt y.toInt + i * (Q.pl p).dx.toInt ∧ ((cmpS Q.pl (fun _ => (p, i, j)) 1).2.2 + tY (cmpS Q.pl (fun _ => (p, i, j)) 1).1 x y).toInt = (Q.pl p).y.toInt + tYi (Q.pl p).turn x.toInt y.toInt + j * (Q.pl p).dy.toInt := by
  have ht := (hL.2.1 p hp).2.2.1
  have e0 : (cmpS Q.pl (fun _ => (p, i, j)) 1).1 = (Q.pl p).turn := bth_0 ⟨_, ht⟩
  obtain ⟨hb, e1, e2⟩ := nxt_b (t := (0, 0, 0)) (B := 0) hL hp hi hj ⟨by decide, by decide, by decide, by decide, by decide⟩ (by decide)
  have e1 : (cmpS Q.pl (fun _ => (p, i, j)) 1).2.1.toInt = 0 + ((Q.pl p).x.toInt + i * (Q.pl p).dx.toInt) := e1
  have e2 : (cmpS Q.pl (fun _ => (p, i, j)) 1).2.2.toInt = 0 + ((Q.pl p).y.toInt + j * (Q.pl p).dy.toInt) := e2
  have b1 : -(0 + 20000000) ≤ (cmpS Q.pl (fun _ => (p, i, j)) 1).2.1.toInt ∧ (cmpS Q.pl (fun _ => (p, i, j)) 1).2.1.toInt ≤ 0 + 20000000 := ⟨hb.2.1, hb.2.2.1⟩
  have b2 : -(0 + 20000000) ≤ (cmpS Q.pl (fun _ => (p, i, j)) 1).2.2.toInt ∧ (cmpS Q.pl (fun _ => (p, i, j)) 1).2.2.toInt ≤ 0 + 20000000 := ⟨hb.2.2.2.1, hb.2.2.2.2⟩
  rw [e0]
  have e := t_tX ht (x := x) (y := y) (by omega) (by omega) (by omega) (by omega)
  have bb := tXi_b ht (x := x.toInt) (y := y.toInt) (B := 900000000000) ⟨hx.1, hx.2, hy.1, hy.2⟩
  rw [t_add (by rw [e.1]; omega) (by rw [e.1]; omega), t_add (by rw [e.2]; omega) (by rw [e.2]; omega), e.1, e.2]
  omega
theorem k_mcellBox (h0 : g_0 l D s0) (hS : HS z ad Qc N M) (hm : MR0 Q N) (hW : WB Q) (hL : WL Q) (hX : WX Q) (hC : WSC Q) (hP : ∀ s, s < Q.nS → WPt (Q.sh s)) {c : Nat} (hc : c < Q.nC) (h42 : ∀ x, x < 20 → N.i 42 x = 0 ∨ N.i 42 x = 1) : Ct l D s0 y_Md_cellBox (Cond.code y_Md_cellBox b_Md_cellBox 7 none) (rk 5 0 0) [.ref (ad 30 0), .int (nI c), .int lay] M (cbP z ad Q Qc N lay c) := by
  have hb1 := hW.1
  have hb3 := hW.2.2.1
  have hWc := hW.2.2.2 c hc
  have hm0 := hm
  refine Ct.of h0 (by decide +kernel) rfl fun X hX h => ?_
  obtain ⟨p_, l', e_, R_, s_, m_, ar_, be_, me_, c_⟩ := X
  obtain rfl : l' = l := hX
  have LPP : ∀ (q p : Nat), p + q = Q.nP → ∀ (M : gH) (N1 : MS), HS z ad Qc N1 M → NV N N1 → (N1.any = 0 ∨ N1.any = 1) → ((∀ p, p ∈ (Q.ce c).ps → bxR Q lay N (Q.pl p).of) → HB (mbx N1) (fun x y => (∃ s, s ∈ (Q.ce c).ss ∧ onB (Q.sh s) lay = true ∧ SPt (Q.sh s) x y) ∨ ∃ p', p' < p ∧ (Q.pl p').cell = c ∧ PIm (Q.pl p') (PT Q lay (Q.pl p').of) x y)) → G (gzz D s0 (p_, l', e_, R_, s_, m_, ar_, be_, me_, c_) (rk 5 0 0) (cbP z ad Q Qc N lay c) 7) 50 [(0, .ref (ad 30 0)), (1, .int (nI c)), (4, .int (nI p))] [] M 0 0 := by
    intro q
    induction q with
    | zero =>
      intro p hp M N1 hS hv ha hH
      obtain rfl : p = Q.nP := by omega
      have hm := hm0.ne hv.1.1
      have hany : N1.any = N1.any := rfl
      refine ri_iload h d_Md_cellBox_50 rfl ?_
      refine ri_aload_n h d_Md_cellBox_52 rfl ?_
      refine ri_get h d_Md_cellBox_53 fl_Md_148 (by first | assumption | exact hS.mo | exact gup_s) (by first | exact congrArg (fun x => some (Value.int (nI x))) hm.np | rfl) ?_
      first | refine ri_icmpN_ge h 230 d_Md_cellBox_56 (by decide) (by omega) (by omega) (fun c_56 => ?_) (fun c_56 => ?_) | refine ri_icmp_ge h 230 d_Md_cellBox_56 (by decide) (fun c_56 => ?_) (fun c_56 => ?_)
      · have hz : narrow .boolean (.int N1.any) = .int N1.any := by rcases ha with e | e <;> rw [e] <;> rfl
        have hc20 : c < 20 := by omega
        refine ri_aload_n h d_Md_cellBox_230 rfl ?_
        refine ri_get h d_Md_cellBox_231 fl_Md_97 (by first | assumption | exact hS.mo | exact gup_s) (by rfl) ?_
        refine ri_iload_n h d_Md_cellBox_234 rfl ?_
        refine ri_aload_n h d_Md_cellBox_235 rfl ?_
        refine ri_get h d_Md_cellBox_236 fl_Md_192 (by first | assumption | exact hS.mo | exact gup_s) (by first | exact congrArg (fun x => some (Value.int x)) hany | rfl) ?_
        refine ri_zast h c d_Md_cellBox_239 hS.a42 rfl hc20 (by decide) hz ?_
        refine ri_gH (hS.set_mb 42 rfl _) (fun M hS => ?_)
        refine ri_aload_n h d_Md_cellBox_240 rfl ?_
        refine ri_get h d_Md_cellBox_241 fl_Md_94 (by first | assumption | exact hS.mo | exact gup_s) (by rfl) ?_
        refine ri_iconstN h 4 d_Md_cellBox_244 rfl ?_
        refine ri_iload_n h d_Md_cellBox_245 rfl ?_
        first | refine ri_imulN h d_Md_cellBox_246 ?_ | refine ri_imul h d_Md_cellBox_246 ?_
        refine ri_aload_n h d_Md_cellBox_247 rfl ?_
        refine ri_get h d_Md_cellBox_248 fl_Md_196 (by first | assumption | exact hS.mo | exact gup_s) (by rfl) ?_
        refine ri_last h _ d_Md_cellBox_251 (by first | assumption | exact hS.a41) (by first | rfl | assumption) (by first | assumption | omega) (by first | decide | omega) ?_
        refine ri_gH (hS.set_ml 41 rfl _) (fun M hS => ?_)
        refine ri_aload_n h d_Md_cellBox_252 rfl ?_
        refine ri_get h d_Md_cellBox_253 fl_Md_94 (by first | assumption | exact hS.mo | exact gup_s) (by rfl) ?_
        refine ri_iconstN h 4 d_Md_cellBox_256 rfl ?_
        refine ri_iload_n h d_Md_cellBox_257 rfl ?_
        first | refine ri_imulN h d_Md_cellBox_258 ?_ | refine ri_imul h d_Md_cellBox_258 ?_
        refine ri_iconstN h 1 d_Md_cellBox_259 rfl ?_
        first | refine ri_iaddN h d_Md_cellBox_260 ?_ | refine ri_iadd h d_Md_cellBox_260 ?_
        refine ri_aload_n h d_Md_cellBox_261 rfl ?_
        refine ri_get h d_Md_cellBox_262 fl_Md_199 (by first | assumption | exact hS.mo | exact gup_s) (by rfl) ?_
        refine ri_last h _ d_Md_cellBox_265 (by first | assumption | exact hS.a41) (by first | rfl | assumption) (by first | assumption | omega) (by first | decide | omega) ?_
        refine ri_gH (hS.set_ml 41 rfl _) (fun M hS => ?_)
        refine ri_aload_n h d_Md_cellBox_266 rfl ?_
        refine ri_get h d_Md_cellBox_267 fl_Md_94 (by first | assumption | exact hS.mo | exact gup_s) (by rfl) ?_
        refine ri_iconstN h 4 d_Md_cellBox_270 rfl ?_
        refine ri_iload_n h d_Md_cellBox_271 rfl ?_
        first | refine ri_imulN h d_Md_cellBox_272 ?_ | refine ri_imul h d_Md_cellBox_272 ?_
        refine ri_iconstN h 2 d_Md_cellBox_273 rfl ?_
        first | refine ri_iaddN h d_Md_cellBox_274 ?_ | refine ri_iadd h d_Md_cellBox_274 ?_
        refine ri_aload_n h d_Md_cellBox_275 rfl ?_
        refine ri_get h d_Md_cellBox_276 fl_Md_202 (by first | assumption | exact hS.mo | exact gup_s) (by rfl) ?_
        refine ri_last h _ d_Md_cellBox_279 (by first | assumption | exact hS.a41) (by first | rfl | assumption) (by first | assumption | omega) (by first | decide | omega) ?_
        refine ri_gH (hS.set_ml 41 rfl _) (fun M hS => ?_)
        refine ri_aload_n h d_Md_cellBox_280 rfl ?_
        refine ri_get h d_Md_cellBox_281 fl_Md_94 (by first | assumption | exact hS.mo | exact gup_s) (by rfl) ?_
        refine ri_iconstN h 4 d_Md_cellBox_284 rfl ?_
        refine ri_iload_n h d_Md_cellBox_285 rfl ?_
        first | refine ri_imulN h d_Md_cellBox_286 ?_ | refine ri_imul h d_Md_cellBox_286 ?_
        refine ri_iconstN h 3 d_Md_cellBox_287 rfl ?_
        first | refine ri_iaddN h d_Md_cellBox_288 ?_ | refine ri_iadd h d_Md_cellBox_288 ?_
        refine ri_aload_n h d_Md_cellBox_289 rfl ?_
        refine ri_get h d_Md_cellBox_290 fl_Md_205 (by first | assumption | exact hS.mo | exact gup_s) (by rfl) ?_
        refine ri_last h _ d_Md_cellBox_293 (by first | assumption | exact hS.a41) (by first | rfl | assumption) (by first | assumption | omega) (by first | decide | omega) ?_
        refine ri_gH (hS.set_ml 41 rfl _) (fun M hS => ?_)
        refine ri_return h d_Md_cellBox_294 (Nat.le_of_ble_eq_true rfl) (Nat.le_of_ble_eq_true rfl) ?_
        refine ⟨rfl, _, hS, ?_, fun x hx => ?_, ?_, fun hr => ?_⟩
        · refine hv.1.trans ⟨((((NE.i 42 (by decide) _).trans (NE.l 41 (by decide) _)).trans (NE.l 41 (by decide) _)).trans (NE.l 41 (by decide) _)).trans (NE.l 41 (by decide) _), fun _ _ => ⟨rfl, rfl⟩, fun _ _ => ⟨rfl, rfl⟩⟩
        · refine ⟨?_, ?_⟩
          · refine Prod.ext ?_ (Prod.ext ?_ (Prod.ext ?_ (Prod.ext ?_ ?_)))
            · show va_up (va_up (va_up (va_up (N1.l 41) (4 * c) N1.x0) (4 * c + 1) N1.y0) (4 * c + 2) N1.x1) (4 * c + 3) N1.y1 (4 * x) = N.l 41 (4 * x)
              rw [va_up_n (by omega), va_up_n (by omega), va_up_n (by omega), va_up_n (by omega), hv.2.2]
            · show va_up (va_up (va_up (va_up (N1.l 41) (4 * c) N1.x0) (4 * c + 1) N1.y0) (4 * c + 2) N1.x1) (4 * c + 3) N1.y1 (4 * x + 1) = N.l 41 (4 * x + 1)
              rw [va_up_n (by omega), va_up_n (by omega), va_up_n (by omega), va_up_n (by omega), hv.2.2]
            · show va_up (va_up (va_up (va_up (N1.l 41) (4 * c) N1.x0) (4 * c + 1) N1.y0) (4 * c + 2) N1.x1) (4 * c + 3) N1.y1 (4 * x + 2) = N.l 41 (4 * x + 2)
              rw [va_up_n (by omega), va_up_n (by omega), va_up_n (by omega), va_up_n (by omega), hv.2.2]
            · show va_up (va_up (va_up (va_up (N1.l 41) (4 * c) N1.x0) (4 * c + 1) N1.y0) (4 * c + 2) N1.x1) (4 * c + 3) N1.y1 (4 * x + 3) = N.l 41 (4 * x + 3)
              rw [va_up_n (by omega), va_up_n (by omega), va_up_n (by omega), va_up_n (by omega), hv.2.2]
            · show 1 - va_up (N1.i 42) c N1.any x = 1 - N.i 42 x
              rw [va_up_n hx, hv.2.1]
          · show va_up (N1.i 42) c N1.any x = N.i 42 x
            rw [va_up_n hx, hv.2.1]
        · show va_up (N1.i 42) c N1.any c = 0 ∨ va_up (N1.i 42) c N1.any c = 1
          rw [va_up_s]
          exact ha
        · have hb := hH hr
          unfold bxR
          have e : bxv ((((((N1.set_i (va_up N1.i 42 (va_up (N1.i 42) c N1.any))).set_l (va_up N1.l 41 (va_up (N1.l 41) (4 * c) N1.x0))).set_l (va_up N1.l 41 (va_up (va_up (N1.l 41) (4 * c) N1.x0) (4 * c + 1) N1.y0))).set_l (va_up N1.l 41 (va_up (va_up (va_up (N1.l 41) (4 * c) N1.x0) (4 * c + 1) N1.y0) (4 * c + 2) N1.x1))).set_l (va_up N1.l 41 (va_up (va_up (va_up (va_up (N1.l 41) (4 * c) N1.x0) (4 * c + 1) N1.y0) (4 * c + 2) N1.x1) (4 * c + 3) N1.y1)))) c = mbx N1 := by
            refine Prod.ext ?_ (Prod.ext ?_ (Prod.ext ?_ (Prod.ext ?_ ?_)))
            · show va_up (va_up (va_up (va_up (N1.l 41) (4 * c) N1.x0) (4 * c + 1) N1.y0) (4 * c + 2) N1.x1) (4 * c + 3) N1.y1 (4 * c) = N1.x0
              rw [va_up_n (by omega), va_up_n (by omega), va_up_n (by omega), va_up_s]
            · show va_up (va_up (va_up (va_up (N1.l 41) (4 * c) N1.x0) (4 * c + 1) N1.y0) (4 * c + 2) N1.x1) (4 * c + 3) N1.y1 (4 * c + 1) = N1.y0
              rw [va_up_n (by omega), va_up_n (by omega), va_up_s]
            · show va_up (va_up (va_up (va_up (N1.l 41) (4 * c) N1.x0) (4 * c + 1) N1.y0) (4 * c + 2) N1.x1) (4 * c + 3) N1.y1 (4 * c + 2) = N1.x1
              rw [va_up_n (by omega), va_up_s]
            · show va_up (va_up (va_up (va_up (N1.l 41) (4 * c) N1.x0) (4 * c + 1) N1.y0) (4 * c + 2) N1.x1) (4 * c + 3) N1.y1 (4 * c + 3) = N1.y1
              rw [va_up_s]
            · show 1 - va_up (N1.i 42) c N1.any c = 1 - N1.any
              rw [va_up_s]
          rw [show bxv _ c = mbx N1 from e]
          refine hb.cong (fun x y => (PT_eq hW hL hc x y).symm.trans ?_ |>.symm) |>.cong (fun x y => Iff.rfl)
      · omega
    | succ q ih =>
      sorry
  sorry
end CBX
