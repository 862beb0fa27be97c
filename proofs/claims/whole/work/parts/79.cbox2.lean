/-! cellBox -/
def NW (N N' : MS) : Prop := NE N N' ∧ (∀ j, 3000 ≤ j → N'.i 24 j = N.i 24 j ∧ N'.i 25 j = N.i 25 j) ∧ ∀ j, 72000 ≤ j → N'.l 22 j = N.l 22 j ∧ N'.l 23 j = N.l 23 j
/-- nothing of the boxes -/
def NV (N N' : MS) : Prop := NW N N' ∧ N'.i 42 = N.i 42 ∧ N'.l 41 = N.l 41
section NWs
variable {N N1 N2 : MS}
theorem NW.refl : NW N N := ⟨NE.rfl, fun _ _ => ⟨rfl, rfl⟩, fun _ _ => ⟨rfl, rfl⟩⟩
theorem NW.trans (h : NW N N1) (h2 : NW N1 N2) : NW N N2 := ⟨h.1.trans h2.1, fun j hj => ⟨(h2.2.1 j hj).1.trans (h.2.1 j hj).1, (h2.2.1 j hj).2.trans (h.2.1 j hj).2⟩, fun j hj => ⟨(h2.2.2 j hj).1.trans (h.2.2 j hj).1, (h2.2.2 j hj).2.trans (h.2.2 j hj).2⟩⟩
theorem NV.trans (h : NV N N1) (h2 : NV N1 N2) : NV N N2 := ⟨h.1.trans h2.1, h2.2.1.trans h.2.1, h2.2.2.trans h.2.2⟩
theorem NO.nv (h : NO 0 N N1) : NV N N1 := ⟨⟨h.1, fun j hj => h.2.2.2.1 j (Or.inr (by omega)), fun j hj => h.2.2.2.2 j (Or.inr (by omega))⟩, (h.2.2.1 42 (by omega)).1, (h.2.2.1 41 (by omega)).2⟩
theorem NV.st {b : BxR} {e : Int32} : NV N (mst N b e) := ⟨⟨NE.rfl, fun _ _ => ⟨rfl, rfl⟩, fun _ _ => ⟨rfl, rfl⟩⟩, rfl, rfl⟩
theorem NV.dep {v : Int32} : NV N (N.set_depth v) := ⟨⟨NE.rfl, fun _ _ => ⟨rfl, rfl⟩, fun _ _ => ⟨rfl, rfl⟩⟩, rfl, rfl⟩
theorem NV.pp {a b : Int64} : NV N ((N.set_px a).set_py b) := ⟨⟨NE.rfl, fun _ _ => ⟨rfl, rfl⟩, fun _ _ => ⟨rfl, rfl⟩⟩, rfl, rfl⟩
theorem NV.si (f : Nat) (hf : 26 ≤ f) (hf2 : f ≠ 42) {g : Nat → Int32} : NV N (N.set_i (va_up N.i f g)) := ⟨⟨NE.i f (by omega) g, fun j hj => ⟨congrFun (va_up_n (g := N.i) (by omega)) j, congrFun (va_up_n (g := N.i) (by omega)) j⟩, fun _ _ => ⟨rfl, rfl⟩⟩, va_up_n (g := N.i) (by omega), rfl⟩
end NWs
abbrev bxv (N : MS) (x : Nat) : BxR := (N.l 41 (4 * x), N.l 41 (4 * x + 1), N.l 41 (4 * x + 2), N.l 41 (4 * x + 3), 1 - N.i 42 x)
def bxR (Q : CS) (lay : Int32) (N : MS) (x : Nat) : Prop := HB (bxv N x) (PT Q lay x)
theorem bxR.cong {Q : CS} {lay : Int32} {N N' : MS} {x : Nat} (h : bxR Q lay N x) (e : bxv N' x = bxv N x) : bxR Q lay N' x := by
  unfold bxR
  rw [e]
  exact h
/-- the k-th of sixteen points -/
def kI (r : PlR) (k : Nat) : Nat := if k % 2 = 0 then 0 else r.cols - 1
def kJ (r : PlR) (k : Nat) : Nat := if k / 2 % 2 = 0 then 0 else r.rows - 1
def kX (b : BxR) (k : Nat) : Int64 := if k / 4 % 2 = 0 then b.x0 else b.x1
def kY (b : BxR) (k : Nat) : Int64 := if k / 8 % 2 = 0 then b.y0 else b.y1
def kP (r : PlR) (b : BxR) (k : Nat) : Pts := fun x y => x = r.x.toInt + tXi r.turn (kX b k).toInt (kY b k).toInt + kI r k * r.dx.toInt ∧ y = r.y.toInt + tYi r.turn (kX b k).toInt (kY b k).toInt + kJ r k * r.dy.toInt
theorem kP_all (r : PlR) (b : BxR) (x y : Int) : (∃ k, k < 16 ∧ kP r b k x y) ↔ P16 r b x y := by
  constructor
  · rintro ⟨k, hk, hx, hy⟩
    refine ⟨(kX b k).toInt, (kY b k).toInt, kI r k, kJ r k, ⟨?_, ?_⟩, ?_, ?_, hx, hy⟩
    · unfold kX; split
      · exact Or.inl rfl
      · exact Or.inr rfl
    · unfold kY; split
      · exact Or.inl rfl
      · exact Or.inr rfl
    · unfold kI; split
      · exact Or.inl rfl
      · exact Or.inr rfl
    · unfold kJ; split
      · exact Or.inl rfl
      · exact Or.inr rfl
  · rintro ⟨x', y', i, j, ⟨h1, h2⟩, h3, h4, hx, hy⟩
    have key : ∀ k, k < 16 → x' = (kX b k).toInt → y' = (kY b k).toInt → i = kI r k → j = kJ r k → ∃ k, k < 16 ∧ kP r b k x y := by
      rintro k hk rfl rfl rfl rfl
      exact ⟨k, hk, hx, hy⟩
    rcases h1 with h1 | h1 <;> rcases h2 with h2 | h2 <;> rcases h3 with h3 | h3 <;> rcases h4 with h4 | h4
    · exact key 0 (by decide) h1 h2 h3 h4
    · exact key 2 (by decide) h1 h2 h3 h4
    · exact key 1 (by decide) h1 h2 h3 h4
    · exact key 3 (by decide) h1 h2 h3 h4
    · exact key 8 (by decide) h1 h2 h3 h4
    · exact key 10 (by decide) h1 h2 h3 h4
    · exact key 9 (by decide) h1 h2 h3 h4
    · exact key 11 (by decide) h1 h2 h3 h4
    · exact key 4 (by decide) h1 h2 h3 h4
    · exact key 6 (by decide) h1 h2 h3 h4
    · exact key 5 (by decide) h1 h2 h3 h4
    · exact key 7 (by decide) h1 h2 h3 h4
    · exact key 12 (by decide) h1 h2 h3 h4
    · exact key 14 (by decide) h1 h2 h3 h4
    · exact key 13 (by decide) h1 h2 h3 h4
    · exact key 15 (by decide) h1 h2 h3 h4
theorem an1 : ∀ k : Fin 16, (nI k.val &&& nI 1 = 0 ↔ k.val % 2 = 0) ∧ (nI k.val &&& nI 2 = 0 ↔ k.val / 2 % 2 = 0) ∧ (nI k.val &&& nI 4) / nI 2 = nI (k.val / 4 % 2 * 2) ∧ (nI k.val &&& nI 8) / nI 4 = nI (k.val / 8 % 2 * 2) := by decide +kernel
theorem bth_0 : ∀ t : Fin 8, bth 0 t.val = t.val := by decide +kernel
section CBX
variable {l : Launch} {D : gD} {s0 : State} {M : gH} {z : Nat} {ad : gA} {Q Qc : CS} {N : MS} {lay : Int32}
abbrev cbP (z : Nat) (ad : gA) (Q Qc : CS) (N : MS) (lay : Int32) (c : Nat) : gR → gH → Prop := fS none (fun M' => ∃ N', HS z ad Qc N' M' ∧ NW N N' ∧ (∀ x, x ≠ c → bxv N' x = bxv N x ∧ N'.i 42 x = N.i 42 x) ∧ (N'.i 42 c = 0 ∨ N'.i 42 c = 1) ∧ ((∀ p, p ∈ (Q.ce c).ps → bxR Q lay N (Q.pl p).of) → bxR Q lay N' c))
/-- one of the sixteen -/
theorem k16 (hL : WL Q) {p i j : Nat} (hp : p < Q.nP) (hi : i < (Q.pl p).cols) (hj : j < (Q.pl p).rows) {x y : Int64} (hx : -900000000000 ≤ x.toInt ∧ x.toInt ≤ 900000000000) (hy : -900000000000 ≤ y.toInt ∧ y.toInt ≤ 900000000000) : ((cmpS Q.pl (fun _ => (p, i, j)) 1).2.1 + tX (cmpS Q.pl (fun _ => (p, i, j)) 1).1 x y).toInt = (Q.pl p).x.toInt + tXi (Q.pl p).turn x.toInt y.toInt + i * (Q.pl p).dx.toInt ∧ ((cmpS Q.pl (fun _ => (p, i, j)) 1).2.2 + tY (cmpS Q.pl (fun _ => (p, i, j)) 1).1 x y).toInt = (Q.pl p).y.toInt + tYi (Q.pl p).turn x.toInt y.toInt + j * (Q.pl p).dy.toInt := by
  have ht := (hL.2.1 p hp).2.2.1
  have e0 : (cmpS Q.pl (fun _ => (p, i, j)) 1).1 = (Q.pl p).turn := bth_0 ⟨_, ht⟩
  obtain ⟨hb, e1, e2⟩ := nxt_b (t := (0, 0, 0)) (B := 0) hL hp hi hj ⟨by decide, by decide, by decide, by decide, by decide⟩ (by decide)
  have e1 : (cmpS Q.pl (fun _ => (p, i, j)) 1).2.1.toInt = 0 + ((Q.pl p).x.toInt + i * (Q.pl p).dx.toInt) := e1
  have e2 : (cmpS Q.pl (fun _ => (p, i, j)) 1).2.2.toInt = 0 + ((Q.pl p).y.toInt + j * (Q.pl p).dy.toInt) := e2
  have b1 : -(0 + 20000000) ≤ (cmpS Q.pl (fun _ => (p, i, j)) 1).2.1.toInt ∧ (cmpS Q.pl (fun _ => (p, i, j)) 1).2.1.toInt ≤ 0 + 20000000 := ⟨hb.2.1, hb.2.2.1⟩
  have b2 : -(0 + 20000000) ≤ (cmpS Q.pl (fun _ => (p, i, j)) 1).2.2.toInt ∧ (cmpS Q.pl (fun _ => (p, i, j)) 1).2.2.toInt ≤ 0 + 20000000 := ⟨hb.2.2.2.1, hb.2.2.2.2⟩
  rw [e0]
  have e := t_tX ht (x := x) (y := y) (by omega) (by omega) (by omega) (by omega)
  have bb := tXi_b ht (x := x.toInt) (y := y.toInt) (B := 900000000000) ⟨hx.1, hx.2, hy.1, hy.2⟩
  rw [t_add (by rw [e.1]; omega) (by rw [e.1]; omega), t_add (by rw [e.2]; omega) (by rw [e.2]; omega), e.1, e.2]
  omega
theorem k_mcellBox (h0 : g_0 l D s0) (hS : HS z ad Qc N M) (hm : MR0 Q N) (hW : WB Q) (hL : WL Q) (hX : WX Q) (hC : WSC Q) (hP : ∀ s, s < Q.nS → WPt (Q.sh s)) {c : Nat} (hc : c < Q.nC) (h42 : ∀ x, x < 20 → N.i 42 x = 0 ∨ N.i 42 x = 1) : Ct l D s0 y_Md_cellBox (Cond.code y_Md_cellBox b_Md_cellBox 7 none) (rk 5 0 0) [.ref (ad 30 0), .int (nI c), .int lay] M (cbP z ad Q Qc N lay c) := by
  have hb1 := hW.1
  have hb3 := hW.2.2.1
  have hWc := hW.2.2.2 c hc
  have hm0 := hm
  refine Ct.of h0 (by decide +kernel) rfl fun X hX h => ?_
  obtain ⟨p_, l', e_, R_, s_, m_, ar_, be_, me_, c_⟩ := X
  obtain rfl : l' = l := hX
  have LPP : ∀ (q p : Nat), p + q = Q.nP → ∀ (M : gH) (N1 : MS), HS z ad Qc N1 M → NV N N1 → (N1.any = 0 ∨ N1.any = 1) → ((∀ p, p ∈ (Q.ce c).ps → bxR Q lay N (Q.pl p).of) → HB (mbx N1) (fun x y => (∃ s, s ∈ (Q.ce c).ss ∧ onB (Q.sh s) lay = true ∧ SPt (Q.sh s) x y) ∨ ∃ p', p' < p ∧ (Q.pl p').cell = c ∧ PIm (Q.pl p') (PT Q lay (Q.pl p').of) x y)) → G (gzz D s0 (p_, l', e_, R_, s_, m_, ar_, be_, me_, c_) (rk 5 0 0) (cbP z ad Q Qc N lay c) 7) 50 [(0, .ref (ad 30 0)), (1, .int (nI c)), (4, .int (nI p))] [] M 0 0 := by
    intro q
    induction q with
    | zero =>
      intro p hp M N1 hS hv ha hH
      obtain rfl : p = Q.nP := by omega
      have hm := hm0.ne hv.1.1
      have hany : N1.any = N1.any := rfl
      refine ri_iload h d_Md_cellBox_50 rfl ?_
      refine ri_aload_n h d_Md_cellBox_52 rfl ?_
      refine ri_get h d_Md_cellBox_53 fl_Md_148 (by first | assumption | exact hS.mo | exact gup_s) (by first | exact congrArg (fun x => some (Value.int (nI x))) hm.np | rfl) ?_
      first | refine ri_icmpN_ge h 230 d_Md_cellBox_56 (by decide) (by omega) (by omega) (fun c_56 => ?_) (fun c_56 => ?_) | refine ri_icmp_ge h 230 d_Md_cellBox_56 (by decide) (fun c_56 => ?_) (fun c_56 => ?_)
      · have hz : narrow .boolean (.int N1.any) = .int N1.any := by rcases ha with e | e <;> rw [e] <;> rfl
        have hc20 : c < 20 := by omega
        refine ri_aload_n h d_Md_cellBox_230 rfl ?_
        refine ri_get h d_Md_cellBox_231 fl_Md_97 (by first | assumption | exact hS.mo | exact gup_s) (by rfl) ?_
        refine ri_iload_n h d_Md_cellBox_234 rfl ?_
        refine ri_aload_n h d_Md_cellBox_235 rfl ?_
        refine ri_get h d_Md_cellBox_236 fl_Md_192 (by first | assumption | exact hS.mo | exact gup_s) (by first | exact congrArg (fun x => some (Value.int x)) hany | rfl) ?_
        refine ri_zast h c d_Md_cellBox_239 hS.a42 rfl hc20 (by decide) hz ?_
        refine ri_gH (hS.set_mb 42 rfl _) (fun M hS => ?_)
        refine ri_aload_n h d_Md_cellBox_240 rfl ?_
        refine ri_get h d_Md_cellBox_241 fl_Md_94 (by first | assumption | exact hS.mo | exact gup_s) (by rfl) ?_
        refine ri_iconstN h 4 d_Md_cellBox_244 rfl ?_
        refine ri_iload_n h d_Md_cellBox_245 rfl ?_
        first | refine ri_imulN h d_Md_cellBox_246 ?_ | refine ri_imul h d_Md_cellBox_246 ?_
        refine ri_aload_n h d_Md_cellBox_247 rfl ?_
        refine ri_get h d_Md_cellBox_248 fl_Md_196 (by first | assumption | exact hS.mo | exact gup_s) (by rfl) ?_
        refine ri_last h _ d_Md_cellBox_251 (by first | assumption | exact hS.a41) (by first | rfl | assumption) (by first | assumption | omega) (by first | decide | omega) ?_
        refine ri_gH (hS.set_ml 41 rfl _) (fun M hS => ?_)
        refine ri_aload_n h d_Md_cellBox_252 rfl ?_
        refine ri_get h d_Md_cellBox_253 fl_Md_94 (by first | assumption | exact hS.mo | exact gup_s) (by rfl) ?_
        refine ri_iconstN h 4 d_Md_cellBox_256 rfl ?_
        refine ri_iload_n h d_Md_cellBox_257 rfl ?_
        first | refine ri_imulN h d_Md_cellBox_258 ?_ | refine ri_imul h d_Md_cellBox_258 ?_
        refine ri_iconstN h 1 d_Md_cellBox_259 rfl ?_
        first | refine ri_iaddN h d_Md_cellBox_260 ?_ | refine ri_iadd h d_Md_cellBox_260 ?_
        refine ri_aload_n h d_Md_cellBox_261 rfl ?_
        refine ri_get h d_Md_cellBox_262 fl_Md_199 (by first | assumption | exact hS.mo | exact gup_s) (by rfl) ?_
        refine ri_last h _ d_Md_cellBox_265 (by first | assumption | exact hS.a41) (by first | rfl | assumption) (by first | assumption | omega) (by first | decide | omega) ?_
        refine ri_gH (hS.set_ml 41 rfl _) (fun M hS => ?_)
        refine ri_aload_n h d_Md_cellBox_266 rfl ?_
        refine ri_get h d_Md_cellBox_267 fl_Md_94 (by first | assumption | exact hS.mo | exact gup_s) (by rfl) ?_
        refine ri_iconstN h 4 d_Md_cellBox_270 rfl ?_
        refine ri_iload_n h d_Md_cellBox_271 rfl ?_
        first | refine ri_imulN h d_Md_cellBox_272 ?_ | refine ri_imul h d_Md_cellBox_272 ?_
        refine ri_iconstN h 2 d_Md_cellBox_273 rfl ?_
        first | refine ri_iaddN h d_Md_cellBox_274 ?_ | refine ri_iadd h d_Md_cellBox_274 ?_
        refine ri_aload_n h d_Md_cellBox_275 rfl ?_
        refine ri_get h d_Md_cellBox_276 fl_Md_202 (by first | assumption | exact hS.mo | exact gup_s) (by rfl) ?_
        refine ri_last h _ d_Md_cellBox_279 (by first | assumption | exact hS.a41) (by first | rfl | assumption) (by first | assumption | omega) (by first | decide | omega) ?_
        refine ri_gH (hS.set_ml 41 rfl _) (fun M hS => ?_)
        refine ri_aload_n h d_Md_cellBox_280 rfl ?_
        refine ri_get h d_Md_cellBox_281 fl_Md_94 (by first | assumption | exact hS.mo | exact gup_s) (by rfl) ?_
        refine ri_iconstN h 4 d_Md_cellBox_284 rfl ?_
        refine ri_iload_n h d_Md_cellBox_285 rfl ?_
        first | refine ri_imulN h d_Md_cellBox_286 ?_ | refine ri_imul h d_Md_cellBox_286 ?_
        refine ri_iconstN h 3 d_Md_cellBox_287 rfl ?_
        first | refine ri_iaddN h d_Md_cellBox_288 ?_ | refine ri_iadd h d_Md_cellBox_288 ?_
        refine ri_aload_n h d_Md_cellBox_289 rfl ?_
        refine ri_get h d_Md_cellBox_290 fl_Md_205 (by first | assumption | exact hS.mo | exact gup_s) (by rfl) ?_
        refine ri_last h _ d_Md_cellBox_293 (by first | assumption | exact hS.a41) (by first | rfl | assumption) (by first | assumption | omega) (by first | decide | omega) ?_
        refine ri_gH (hS.set_ml 41 rfl _) (fun M hS => ?_)
        refine ri_return h d_Md_cellBox_294 (Nat.le_of_ble_eq_true rfl) (Nat.le_of_ble_eq_true rfl) ?_
        refine ⟨rfl, _, hS, ?_, fun x hx => ?_, ?_, fun hr => ?_⟩
        · refine hv.1.trans ⟨((((NE.i 42 (by decide) _).trans (NE.l 41 (by decide) _)).trans (NE.l 41 (by decide) _)).trans (NE.l 41 (by decide) _)).trans (NE.l 41 (by decide) _), fun _ _ => ⟨rfl, rfl⟩, fun _ _ => ⟨rfl, rfl⟩⟩
        · refine ⟨?_, ?_⟩
          · refine Prod.ext ?_ (Prod.ext ?_ (Prod.ext ?_ (Prod.ext ?_ ?_)))
            · show va_up (va_up (va_up (va_up (N1.l 41) (4 * c) N1.x0) (4 * c + 1) N1.y0) (4 * c + 2) N1.x1) (4 * c + 3) N1.y1 (4 * x) = N.l 41 (4 * x)
              rw [va_up_n (by omega), va_up_n (by omega), va_up_n (by omega), va_up_n (by omega), hv.2.2]
            · show va_up (va_up (va_up (va_up (N1.l 41) (4 * c) N1.x0) (4 * c + 1) N1.y0) (4 * c + 2) N1.x1) (4 * c + 3) N1.y1 (4 * x + 1) = N.l 41 (4 * x + 1)
              rw [va_up_n (by omega), va_up_n (by omega), va_up_n (by omega), va_up_n (by omega), hv.2.2]
            · show va_up (va_up (va_up (va_up (N1.l 41) (4 * c) N1.x0) (4 * c + 1) N1.y0) (4 * c + 2) N1.x1) (4 * c + 3) N1.y1 (4 * x + 2) = N.l 41 (4 * x + 2)
              rw [va_up_n (by omega), va_up_n (by omega), va_up_n (by omega), va_up_n (by omega), hv.2.2]
            · show va_up (va_up (va_up (va_up (N1.l 41) (4 * c) N1.x0) (4 * c + 1) N1.y0) (4 * c + 2) N1.x1) (4 * c + 3) N1.y1 (4 * x + 3) = N.l 41 (4 * x + 3)
              rw [va_up_n (by omega), va_up_n (by omega), va_up_n (by omega), va_up_n (by omega), hv.2.2]
            · show 1 - va_up (N1.i 42) c N1.any x = 1 - N.i 42 x
              rw [va_up_n hx, hv.2.1]
          · show va_up (N1.i 42) c N1.any x = N.i 42 x
            rw [va_up_n hx, hv.2.1]
        · show va_up (N1.i 42) c N1.any c = 0 ∨ va_up (N1.i 42) c N1.any c = 1
          rw [va_up_s]
          exact ha
        · have hb := hH hr
          unfold bxR
          have e : bxv ((((((N1.set_i (va_up N1.i 42 (va_up (N1.i 42) c N1.any))).set_l (va_up N1.l 41 (va_up (N1.l 41) (4 * c) N1.x0))).set_l (va_up N1.l 41 (va_up (va_up (N1.l 41) (4 * c) N1.x0) (4 * c + 1) N1.y0))).set_l (va_up N1.l 41 (va_up (va_up (va_up (N1.l 41) (4 * c) N1.x0) (4 * c + 1) N1.y0) (4 * c + 2) N1.x1))).set_l (va_up N1.l 41 (va_up (va_up (va_up (va_up (N1.l 41) (4 * c) N1.x0) (4 * c + 1) N1.y0) (4 * c + 2) N1.x1) (4 * c + 3) N1.y1)))) c = mbx N1 := by
            refine Prod.ext ?_ (Prod.ext ?_ (Prod.ext ?_ (Prod.ext ?_ ?_)))
            · show va_up (va_up (va_up (va_up (N1.l 41) (4 * c) N1.x0) (4 * c + 1) N1.y0) (4 * c + 2) N1.x1) (4 * c + 3) N1.y1 (4 * c) = N1.x0
              rw [va_up_n (by omega), va_up_n (by omega), va_up_n (by omega), va_up_s]
            · show va_up (va_up (va_up (va_up (N1.l 41) (4 * c) N1.x0) (4 * c + 1) N1.y0) (4 * c + 2) N1.x1) (4 * c + 3) N1.y1 (4 * c + 1) = N1.y0
              rw [va_up_n (by omega), va_up_n (by omega), va_up_s]
            · show va_up (va_up (va_up (va_up (N1.l 41) (4 * c) N1.x0) (4 * c + 1) N1.y0) (4 * c + 2) N1.x1) (4 * c + 3) N1.y1 (4 * c + 2) = N1.x1
              rw [va_up_n (by omega), va_up_s]
            · show va_up (va_up (va_up (va_up (N1.l 41) (4 * c) N1.x0) (4 * c + 1) N1.y0) (4 * c + 2) N1.x1) (4 * c + 3) N1.y1 (4 * c + 3) = N1.y1
              rw [va_up_s]
            · show 1 - va_up (N1.i 42) c N1.any c = 1 - N1.any
              rw [va_up_s]
          have hPT : HB (mbx N1) (PT Q lay c) := by
            refine hb.cong (fun x y => Iff.trans (or_congr Iff.rfl ?_) (PT_eq hW hL hc x y).symm)
            constructor
            · rintro ⟨p', h1, h2, h3⟩
              exact ⟨p', (hL.ps hc).mpr ⟨h1, h2⟩, h3⟩
            · rintro ⟨p', h1, h3⟩
              obtain ⟨h1, h2⟩ := (hL.ps hc).mp h1
              exact ⟨p', h1, h2, h3⟩
          exact (congrArg (fun b => HB b (PT Q lay c)) e).mpr hPT
      · omega
    | succ q ih =>
      intro p hp M N1 hS hv ha hH
      have hpP : p < Q.nP := by omega
      have hm := hm0.ne hv.1.1
      obtain ⟨g1, g2, g3, g4, g5, -⟩ := hL.2.1 p hpP
      have hp80 : p < 80 := by omega
      have hof20 : (Q.pl p).of < 20 := by omega
      have h42o : N1.i 42 (Q.pl p).of = N.i 42 (Q.pl p).of := by rw [hv.2.1]
      have SK : ((∀ p, p ∈ (Q.ce c).ps → bxR Q lay N (Q.pl p).of) → (Q.pl p).cell = c → ∀ x y, ¬ PT Q lay (Q.pl p).of x y) → G (gzz D s0 (p_, l', e_, R_, s_, m_, ar_, be_, me_, c_) (rk 5 0 0) (cbP z ad Q Qc N lay c) 7) 224 [(0, .ref (ad 30 0)), (1, .int (nI c)), (4, .int (nI p))] [] M 0 0 := by
        intro hno
        first | refine ri_iincN h d_Md_cellBox_224 rfl (Nat.le_of_ble_eq_true rfl) ?_ | refine ri_iinc h _ d_Md_cellBox_224 rfl rfl (Nat.le_of_ble_eq_true rfl) ?_
        refine ri_goto h 50 d_Md_cellBox_227 (by decide) ?_
        exact ri_ls [(0, .ref (ad 30 0)), (1, .int (nI c)), (4, .int (nI (p + 1)))] ⟨rfl, rfl, rfl, trivial⟩ (ih (p + 1) (by omega) M N1 hS hv ha (fun hr => (hH hr).cong fun x y => or_congr Iff.rfl ⟨fun ⟨p', w1, w2, w3⟩ => ⟨p', by omega, w2, w3⟩, fun ⟨p', w1, w2, w3⟩ => ⟨p', (show p' < p ∨ p' = p by omega).elim id (fun e => by subst e; obtain ⟨x', y', i', j', w4, -⟩ := w3; exact absurd w4 (hno hr w2 x' y')), w2, w3⟩⟩))
      have TK : (Q.pl p).cell = c → N.i 42 (Q.pl p).of = 1 → G (gzz D s0 (p_, l', e_, R_, s_, m_, ar_, be_, me_, c_) (rk 5 0 0) (cbP z ad Q Qc N lay c) 7) 92 [(0, .ref (ad 30 0)), (1, .int (nI c)), (4, .int (nI p)), (5, .int (nI (Q.pl p).of))] [] M 0 0 := by
        intro hcell h42p
        have hps : p ∈ (Q.ce c).ps := (hL.ps hc).mpr ⟨hpP, hcell⟩
        have hbn : (bxv N (Q.pl p).of).n = 0 := by
          show (1 : Int32) - N.i 42 (Q.pl p).of = 0
          rw [h42p]
          decide
        have hPTb := PT_b (lay := lay) hL hX 21 _ g2
        have L16 : ∀ (q k : Nat), k + q = 16 → ∀ (M : gH) (N3 : MS), HS z ad Qc N3 M → NV N N3 → N3.depth = nI 1 → N3.i 30 0 = nI p → (N3.any = 0 ∨ N3.any = 1) → ((∀ p, p ∈ (Q.ce c).ps → bxR Q lay N (Q.pl p).of) → HB (mbx N3) (fun x y => ((∃ s, s ∈ (Q.ce c).ss ∧ onB (Q.sh s) lay = true ∧ SPt (Q.sh s) x y) ∨ ∃ p', p' < p ∧ (Q.pl p').cell = c ∧ PIm (Q.pl p') (PT Q lay (Q.pl p').of) x y) ∨ ∃ k', k' < k ∧ kP (Q.pl p) (bxv N (Q.pl p).of) k' x y)) → G (gzz D s0 (p_, l', e_, R_, s_, m_, ar_, be_, me_, c_) (rk 5 0 0) (cbP z ad Q Qc N lay c) 7) 108 [(0, .ref (ad 30 0)), (1, .int (nI c)), (4, .int (nI p)), (5, .int (nI (Q.pl p).of)), (6, .int (nI k))] [] M 0 0 := by
          intro q
          induction q with
          | zero =>
            intro k hk M N3 hS hv3 hdep h30 ha3 hH3
            obtain rfl : k = 16 := by omega
            refine ri_iload h d_Md_cellBox_108 rfl ?_
            refine ri_bipushN h 16 d_Md_cellBox_110 rfl ?_
            first | refine ri_icmpN_ge h 224 d_Md_cellBox_112 (by decide) (by omega) (by omega) (fun c_112 => ?_) (fun c_112 => ?_) | refine ri_icmp_ge h 224 d_Md_cellBox_112 (by decide) (fun c_112 => ?_) (fun c_112 => ?_)
            · first | refine ri_iincN h d_Md_cellBox_224 rfl (Nat.le_of_ble_eq_true rfl) ?_ | refine ri_iinc h _ d_Md_cellBox_224 rfl rfl (Nat.le_of_ble_eq_true rfl) ?_
              refine ri_goto h 50 d_Md_cellBox_227 (by decide) ?_
              refine ri_ls [(0, .ref (ad 30 0)), (1, .int (nI c)), (4, .int (nI (p + 1)))] ⟨rfl, rfl, rfl, trivial⟩ (ih (p + 1) (by omega) M N3 hS hv3 ha3 (fun hr => ?_))
              have hbo := hr p hps
              have w1 := hbo.p16 hL hpP hbn hPTb (by omega)
              have w2 := (hbo.place hL hpP hbn hPTb (by omega)).1
              have w3 := (hH3 hr).cong (fun x y => or_congr Iff.rfl (kP_all (Q.pl p) (bxv N (Q.pl p).of) x y))
              refine (w1.swap w2 w3).cong (fun x y => ?_)
              rw [or_assoc]
              refine or_congr Iff.rfl ⟨?_, ?_⟩
              · rintro (⟨p', v1, v2, v3⟩ | v3)
                · exact ⟨p', by omega, v2, v3⟩
                · exact ⟨p, by omega, hcell, v3⟩
              · rintro ⟨p', v1, v2, v3⟩
                rcases (show p' < p ∨ p' = p by omega) with e | rfl
                · exact Or.inl ⟨p', e, v2, v3⟩
                · exact Or.inr v3
            · omega
          | succ q ihk =>
            intro k hk M N3 hS hv3 hdep h30 ha3 hH3
            obtain ⟨n1, n2, n3, n4⟩ := an1 ⟨k, by omega⟩
            have n1 : nI k &&& nI 1 = 0 ↔ k % 2 = 0 := n1
            have n2 : nI k &&& nI 2 = 0 ↔ k / 2 % 2 = 0 := n2
            have n3 : (nI k &&& nI 4) / nI 2 = nI (k / 4 % 2 * 2) := n3
            have n4 : (nI k &&& nI 8) / nI 4 = nI (k / 8 % 2 * 2) := n4
            have hm3 := hm0.ne hv3.1.1
            have hkI : kI (Q.pl p) k < (Q.pl p).cols := by unfold kI; split <;> omega
            have hkJ : kJ (Q.pl p) k < (Q.pl p).rows := by unfold kJ; split <;> omega
            have fx : N3.l 41 (4 * (Q.pl p).of + k / 4 % 2 * 2) = kX (bxv N (Q.pl p).of) k := by
              rw [hv3.2.2]
              unfold kX
              split
              · rename_i e; rw [e]; rfl
              · rename_i e; rw [show k / 4 % 2 = 1 by omega]
            have fy : N3.l 41 (4 * (Q.pl p).of + 1 + k / 8 % 2 * 2) = kY (bxv N (Q.pl p).of) k := by
              rw [hv3.2.2]
              unfold kY
              split
              · rename_i e; rw [e]
              · rename_i e; rw [show k / 8 % 2 = 1 by omega]
            have J166 : ∀ (M : gH) (v : Int32), v = nI (kJ (Q.pl p) k) → HS z ad Qc (N3.set_i (va_up N3.i 31 (va_up (N3.i 31) 0 (nI (kI (Q.pl p) k))))) M → G (gzz D s0 (p_, l', e_, R_, s_, m_, ar_, be_, me_, c_) (rk 5 0 0) (cbP z ad Q Qc N lay c) 7) 166 [(0, .ref (ad 30 0)), (1, .int (nI c)), (4, .int (nI p)), (5, .int (nI (Q.pl p).of)), (6, .int (nI k))] [.int v, .int (nI 0), .ref (ad 132 0)] M 0 0 := by
              intro M v hvv hS
              subst hvv
              refine ri_iast h 0 d_Md_cellBox_166 hS.a32 rfl (by decide) (by decide) ?_
              refine ri_gH (hS.set_mi 32 rfl _) (fun M hS => ?_)
              refine ri_aload_n h d_Md_cellBox_167 rfl ?_
              refine ri_aload_n h d_Md_cellBox_168 rfl ?_
              refine ri_get h d_Md_cellBox_169 fl_Md_94 (by first | assumption | exact hS.mo | exact gup_s) (by rfl) ?_
              refine ri_iconstN h 4 d_Md_cellBox_172 rfl ?_
              refine ri_iload h d_Md_cellBox_173 rfl ?_
              first | refine ri_imulN h d_Md_cellBox_175 ?_ | refine ri_imul h d_Md_cellBox_175 ?_
              refine ri_iload h d_Md_cellBox_176 rfl ?_
              refine ri_iconstN h 4 d_Md_cellBox_178 rfl ?_
              refine ri_iand h d_Md_cellBox_179 ?_
              refine ri_iconstN h 2 d_Md_cellBox_180 rfl ?_
              refine ri_idiv h d_Md_cellBox_181 (by decide) ?_
              rw [n3]
              first | refine ri_iaddN h d_Md_cellBox_182 ?_ | refine ri_iadd h d_Md_cellBox_182 ?_
              refine ri_laldE h _ d_Md_cellBox_183 hS.a41 rfl (by omega) (by decide) fx ?_
              refine ri_aload_n h d_Md_cellBox_184 rfl ?_
              refine ri_get h d_Md_cellBox_185 fl_Md_94 (by first | assumption | exact hS.mo | exact gup_s) (by rfl) ?_
              refine ri_iconstN h 4 d_Md_cellBox_188 rfl ?_
              refine ri_iload h d_Md_cellBox_189 rfl ?_
              first | refine ri_imulN h d_Md_cellBox_191 ?_ | refine ri_imul h d_Md_cellBox_191 ?_
              refine ri_iconstN h 1 d_Md_cellBox_192 rfl ?_
              first | refine ri_iaddN h d_Md_cellBox_193 ?_ | refine ri_iadd h d_Md_cellBox_193 ?_
              refine ri_iload h d_Md_cellBox_194 rfl ?_
              refine ri_bipushN h 8 d_Md_cellBox_196 rfl ?_
              refine ri_iand h d_Md_cellBox_198 ?_
              refine ri_iconstN h 4 d_Md_cellBox_199 rfl ?_
              refine ri_idiv h d_Md_cellBox_200 (by decide) ?_
              rw [n4]
              first | refine ri_iaddN h d_Md_cellBox_201 ?_ | refine ri_iadd h d_Md_cellBox_201 ?_
              refine ri_laldE h _ d_Md_cellBox_202 hS.a41 rfl (by omega) (by decide) fy ?_
              refine ri_dV0_2 (r := (gR6, gT6, 44)) h d_Md_cellBox_203 cv_Md_168 (by first | exact hS.lcO | exact hS.lsO | exact hS.lpO | exact hS.cesO (by first | assumption | omega) | exact hS.cepO (by first | assumption | omega) | exact ⟨_, (by first | assumption | exact hS.st | exact hS.mo | exact hS.out | exact hS.sb | exact hS.ce (by first | assumption | omega) | exact hS.ceb (by first | assumption | omega) | exact hS.sh (by first | assumption | omega) | exact hS.shb (by first | assumption | omega) | exact hS.pl (by first | assumption | omega) | exact hS.plb (by first | assumption | omega) | exact hS.fl (by first | assumption | omega) | exact gup_s | (refine gup_t (by assumption) ?_; first | assumption | exact gup_s | (refine gup_t (by assumption) ?_; first | assumption | exact gup_s | (refine gup_t (by assumption) ?_; first | assumption | exact gup_s))))⟩) rfl (k_mcarry (d := 1) (st := fun _ => (p, kI (Q.pl p) k, kJ (Q.pl p) k)) h0 hS (MR0.ne hm3 ((NE.i 31 (by decide) _).trans (NE.i 32 (by decide) _))) hW hL (by decide) hdep (fun j hj => by obtain rfl : j = 0 := (by omega); exact ⟨h30, rfl, rfl, hpP, by show kI (Q.pl p) k < 20; omega, by show kJ (Q.pl p) k < 20; omega⟩)) (Nat.le_of_ble_eq_true rfl) (Nat.le_of_ble_eq_true rfl) (Nat.le_of_ble_eq_true rfl) (Nat.le_of_ble_eq_true rfl) (Nat.le_of_ble_eq_true rfl) (fun M hS => ?_)
              refine ri_aload_n h d_Md_cellBox_206 rfl ?_
              refine ri_aload_n h d_Md_cellBox_207 rfl ?_
              refine ri_get h d_Md_cellBox_208 fl_Md_158 (by first | assumption | exact hS.mo | exact gup_s) (by rfl) ?_
              refine ri_aload_n h d_Md_cellBox_211 rfl ?_
              refine ri_get h d_Md_cellBox_212 fl_Md_162 (by first | assumption | exact hS.mo | exact gup_s) (by rfl) ?_
              refine ri_dV0_2 (r := (gR6, gT6, 44)) h d_Md_cellBox_215 cv_Md_210 (by first | exact hS.lcO | exact hS.lsO | exact hS.lpO | exact hS.cesO (by first | assumption | omega) | exact hS.cepO (by first | assumption | omega) | exact ⟨_, (by first | assumption | exact hS.st | exact hS.mo | exact hS.out | exact hS.sb | exact hS.ce (by first | assumption | omega) | exact hS.ceb (by first | assumption | omega) | exact hS.sh (by first | assumption | omega) | exact hS.shb (by first | assumption | omega) | exact hS.pl (by first | assumption | omega) | exact hS.plb (by first | assumption | omega) | exact hS.fl (by first | assumption | omega) | exact gup_s | (refine gup_t (by assumption) ?_; first | assumption | exact gup_s | (refine gup_t (by assumption) ?_; first | assumption | exact gup_s | (refine gup_t (by assumption) ?_; first | assumption | exact gup_s))))⟩) rfl (k_mhold h0 hS ha3) (Nat.le_of_ble_eq_true rfl) (Nat.le_of_ble_eq_true rfl) (Nat.le_of_ble_eq_true rfl) (Nat.le_of_ble_eq_true rfl) (Nat.le_of_ble_eq_true rfl) (fun M hS => ?_)
              first | refine ri_iincN h d_Md_cellBox_218 rfl (Nat.le_of_ble_eq_true rfl) ?_ | refine ri_iinc h _ d_Md_cellBox_218 rfl rfl (Nat.le_of_ble_eq_true rfl) ?_
              refine ri_goto h 108 d_Md_cellBox_221 (by decide) ?_
              refine ri_ls [(0, .ref (ad 30 0)), (1, .int (nI c)), (4, .int (nI p)), (5, .int (nI (Q.pl p).of)), (6, .int (nI (k + 1)))] ⟨rfl, rfl, rfl, rfl, rfl, trivial⟩ (ihk (k + 1) (by omega) M _ hS (hv3.trans (((NV.si 31 (by decide) (by decide)).trans (NV.si 32 (by decide) (by decide))).trans (NV.pp.trans NV.st))) hdep h30 (Or.inr rfl) (fun hr => ?_))
              obtain ⟨b2, ⟨u3, b3⟩, ⟨u4, b4⟩, ⟨v5, b5⟩, ⟨v6, b6⟩⟩ := (hr p hps).at hbn
              have c3 := hPTb _ _ b3
              have c4 := hPTb _ _ b4
              have c5 := hPTb _ _ b5
              have c6 := hPTb _ _ b6
              have hxb : -900000000000 ≤ (kX (bxv N (Q.pl p).of) k).toInt ∧ (kX (bxv N (Q.pl p).of) k).toInt ≤ 900000000000 := by unfold kX; split <;> omega
              have hyb : -900000000000 ≤ (kY (bxv N (Q.pl p).of) k).toInt ∧ (kY (bxv N (Q.pl p).of) k).toInt ≤ 900000000000 := by unfold kY; split <;> omega
              have w1 := k16 hL hpP hkI hkJ hxb hyb
              have w2 := (hH3 hr).bpt1 ((cmpS Q.pl (fun _ => (p, kI (Q.pl p) k, kJ (Q.pl p) k)) 1).2.1 + tX (cmpS Q.pl (fun _ => (p, kI (Q.pl p) k, kJ (Q.pl p) k)) 1).1 (kX (bxv N (Q.pl p).of) k) (kY (bxv N (Q.pl p).of) k)) ((cmpS Q.pl (fun _ => (p, kI (Q.pl p) k, kJ (Q.pl p) k)) 1).2.2 + tY (cmpS Q.pl (fun _ => (p, kI (Q.pl p) k, kJ (Q.pl p) k)) 1).1 (kX (bxv N (Q.pl p).of) k) (kY (bxv N (Q.pl p).of) k))
              rw [w1.1, w1.2] at w2
              have w3 := w2.cong (P' := fun x y => ((∃ s, s ∈ (Q.ce c).ss ∧ onB (Q.sh s) lay = true ∧ SPt (Q.sh s) x y) ∨ ∃ p', p' < p ∧ (Q.pl p').cell = c ∧ PIm (Q.pl p') (PT Q lay (Q.pl p').of) x y) ∨ ∃ k', k' < k + 1 ∧ kP (Q.pl p) (bxv N (Q.pl p).of) k' x y) (fun x y => by
                rw [or_assoc]
                refine or_congr Iff.rfl ⟨?_, ?_⟩
                · rintro (⟨k', v1, v2⟩ | v2)
                  · exact ⟨k', by omega, v2⟩
                  · exact ⟨k, by omega, v2⟩
                · rintro ⟨k', v1, v2⟩
                  rcases (show k' < k ∨ k' = k by omega) with e | rfl
                  · exact Or.inl ⟨k', e, v2⟩
                  · exact Or.inr v2)
              have e : ∀ (X : MS) (b : BxR), b.n = 0 → HB b (fun x y => ((∃ s, s ∈ (Q.ce c).ss ∧ onB (Q.sh s) lay = true ∧ SPt (Q.sh s) x y) ∨ ∃ p', p' < p ∧ (Q.pl p').cell = c ∧ PIm (Q.pl p') (PT Q lay (Q.pl p').of) x y) ∨ ∃ k', k' < k + 1 ∧ kP (Q.pl p) (bxv N (Q.pl p).of) k' x y) → HB (mbx (mset X b)) (fun x y => ((∃ s, s ∈ (Q.ce c).ss ∧ onB (Q.sh s) lay = true ∧ SPt (Q.sh s) x y) ∨ ∃ p', p' < p ∧ (Q.pl p').cell = c ∧ PIm (Q.pl p') (PT Q lay (Q.pl p').of) x y) ∨ ∃ k', k' < k + 1 ∧ kP (Q.pl p) (bxv N (Q.pl p).of) k' x y) := fun X b hb hh => by rw [mbx_s hb]; exact hh
              exact e _ _ rfl w3
            have J140 : ∀ (v : Int32), v = nI (kI (Q.pl p) k) → G (gzz D s0 (p_, l', e_, R_, s_, m_, ar_, be_, me_, c_) (rk 5 0 0) (cbP z ad Q Qc N lay c) 7) 140 [(0, .ref (ad 30 0)), (1, .int (nI c)), (4, .int (nI p)), (5, .int (nI (Q.pl p).of)), (6, .int (nI k))] [.int v, .int (nI 0), .ref (ad 131 0)] M 0 0 := by
              intro v hvv
              subst hvv
              refine ri_iast h 0 d_Md_cellBox_140 hS.a31 rfl (by decide) (by decide) ?_
              refine ri_gH (hS.set_mi 31 rfl _) (fun M hS => ?_)
              have hm := MR0.ne hm3 (NE.i 31 (by decide) (va_up (N3.i 31) 0 (nI (kI (Q.pl p) k))))
              refine ri_aload_n h d_Md_cellBox_141 rfl ?_
              refine ri_get h d_Md_cellBox_142 fl_Md_91 (by first | assumption | exact hS.mo | exact gup_s) (by rfl) ?_
              refine ri_iconstN h 0 d_Md_cellBox_145 rfl ?_
              refine ri_iload h d_Md_cellBox_146 rfl ?_
              refine ri_iconstN h 2 d_Md_cellBox_148 rfl ?_
              refine ri_iand h d_Md_cellBox_149 ?_
              refine ri_if_ne h 157 d_Md_cellBox_150 (by decide) (fun c_150 => ?_) (fun c_150 => ?_)
              · refine ri_aload_n h d_Md_cellBox_157 rfl ?_
                refine ri_get h d_Md_cellBox_158 fl_Md_54 (by first | assumption | exact hS.mo | exact gup_s) (by rfl) ?_
                refine ri_iload h d_Md_cellBox_161 rfl ?_
                refine ri_ialdE h _ d_Md_cellBox_163 (by first | assumption | exact hS.a18) (by first | rfl | assumption) (by first | assumption | omega) (by first | decide | omega) (by first | assumption | exact hm.i18 (by first | assumption | omega) | rfl) ?_
                refine ri_iconstN h 1 d_Md_cellBox_164 rfl ?_
                first | refine ri_isubN h d_Md_cellBox_165 (by first | omega | exact Nat.le_add_left _ _) ?_ | refine ri_isub h d_Md_cellBox_165 ?_
                exact ri_ls [(0, .ref (ad 30 0)), (1, .int (nI c)), (4, .int (nI p)), (5, .int (nI (Q.pl p).of)), (6, .int (nI k))] ⟨rfl, rfl, rfl, rfl, rfl, trivial⟩ (J166 _ _ (by first | (unfold kJ; rw [if_pos (n2.mp c_150)]) | (unfold kJ; rw [if_neg (fun w => c_150 (n2.mpr w))])) hS)
              · refine ri_iconstN h 0 d_Md_cellBox_153 rfl ?_
                refine ri_goto h 166 d_Md_cellBox_154 (by decide) ?_
                exact ri_ls [(0, .ref (ad 30 0)), (1, .int (nI c)), (4, .int (nI p)), (5, .int (nI (Q.pl p).of)), (6, .int (nI k))] ⟨rfl, rfl, rfl, rfl, rfl, trivial⟩ (J166 _ _ (by first | (unfold kJ; rw [if_pos (n2.mp c_150)]) | (unfold kJ; rw [if_neg (fun w => c_150 (n2.mpr w))])) hS)
            have hm := hm3
            refine ri_iload h d_Md_cellBox_108 rfl ?_
            refine ri_bipushN h 16 d_Md_cellBox_110 rfl ?_
            first | refine ri_icmpN_ge h 224 d_Md_cellBox_112 (by decide) (by omega) (by omega) (fun c_112 => ?_) (fun c_112 => ?_) | refine ri_icmp_ge h 224 d_Md_cellBox_112 (by decide) (fun c_112 => ?_) (fun c_112 => ?_)
            · omega
            · refine ri_aload_n h d_Md_cellBox_115 rfl ?_
              refine ri_get h d_Md_cellBox_116 fl_Md_88 (by first | assumption | exact hS.mo | exact gup_s) (by rfl) ?_
              refine ri_iconstN h 0 d_Md_cellBox_119 rfl ?_
              refine ri_iload h d_Md_cellBox_120 rfl ?_
              refine ri_iconstN h 1 d_Md_cellBox_122 rfl ?_
              refine ri_iand h d_Md_cellBox_123 ?_
              refine ri_if_ne h 131 d_Md_cellBox_124 (by decide) (fun c_124 => ?_) (fun c_124 => ?_)
              · refine ri_aload_n h d_Md_cellBox_131 rfl ?_
                refine ri_get h d_Md_cellBox_132 fl_Md_51 (by first | assumption | exact hS.mo | exact gup_s) (by rfl) ?_
                refine ri_iload h d_Md_cellBox_135 rfl ?_
                refine ri_ialdE h _ d_Md_cellBox_137 (by first | assumption | exact hS.a17) (by first | rfl | assumption) (by first | assumption | omega) (by first | decide | omega) (by first | assumption | exact hm.i17 (by first | assumption | omega) | rfl) ?_
                refine ri_iconstN h 1 d_Md_cellBox_138 rfl ?_
                first | refine ri_isubN h d_Md_cellBox_139 (by first | omega | exact Nat.le_add_left _ _) ?_ | refine ri_isub h d_Md_cellBox_139 ?_
                exact ri_ls [(0, .ref (ad 30 0)), (1, .int (nI c)), (4, .int (nI p)), (5, .int (nI (Q.pl p).of)), (6, .int (nI k))] ⟨rfl, rfl, rfl, rfl, rfl, trivial⟩ (J140 _ (by first | (unfold kI; rw [if_pos (n1.mp c_124)]) | (unfold kI; rw [if_neg (fun w => c_124 (n1.mpr w))])))
              · refine ri_iconstN h 0 d_Md_cellBox_127 rfl ?_
                refine ri_goto h 140 d_Md_cellBox_128 (by decide) ?_
                exact ri_ls [(0, .ref (ad 30 0)), (1, .int (nI c)), (4, .int (nI p)), (5, .int (nI (Q.pl p).of)), (6, .int (nI k))] ⟨rfl, rfl, rfl, rfl, rfl, trivial⟩ (J140 _ (by first | (unfold kI; rw [if_pos (n1.mp c_124)]) | (unfold kI; rw [if_neg (fun w => c_124 (n1.mpr w))])))
        refine ri_aload_n h d_Md_cellBox_92 rfl ?_
        refine ri_iconstN h 1 d_Md_cellBox_93 rfl ?_
        refine ri_pm_depth h d_Md_cellBox_94 fl_Md_165 hS (fun M hS => ?_)
        refine ri_aload_n h d_Md_cellBox_97 rfl ?_
        refine ri_get h d_Md_cellBox_98 fl_Md_85 (by first | assumption | exact hS.mo | exact gup_s) (by rfl) ?_
        refine ri_iconstN h 0 d_Md_cellBox_101 rfl ?_
        refine ri_iload h d_Md_cellBox_102 rfl ?_
        refine ri_iast h _ d_Md_cellBox_104 (by first | assumption | exact hS.a30) (by first | rfl | assumption) (by first | assumption | omega) (by first | decide | omega) ?_
        refine ri_gH (hS.set_mi 30 rfl _) (fun M hS => ?_)
        refine ri_iconstN h 0 d_Md_cellBox_105 rfl ?_
        refine ri_istore h d_Md_cellBox_106 (Nat.le_of_ble_eq_true rfl) ?_
        exact ri_ls [(0, .ref (ad 30 0)), (1, .int (nI c)), (4, .int (nI p)), (5, .int (nI (Q.pl p).of)), (6, .int (nI 0))] ⟨rfl, rfl, rfl, rfl, rfl, trivial⟩ (L16 16 0 (by omega) M _ hS (hv.trans (NV.dep.trans (NV.si 30 (by decide) (by decide)))) rfl rfl ha (fun hr => (hH hr).cong fun x y => ⟨Or.inl, fun w => w.elim id (fun ⟨k', w1, _⟩ => by omega)⟩))
      refine ri_iload h d_Md_cellBox_50 rfl ?_
      refine ri_aload_n h d_Md_cellBox_52 rfl ?_
      refine ri_get h d_Md_cellBox_53 fl_Md_148 (by first | assumption | exact hS.mo | exact gup_s) (by first | exact congrArg (fun x => some (Value.int (nI x))) hm.np | rfl) ?_
      first | refine ri_icmpN_ge h 230 d_Md_cellBox_56 (by decide) (by omega) (by omega) (fun c_56 => ?_) (fun c_56 => ?_) | refine ri_icmp_ge h 230 d_Md_cellBox_56 (by decide) (fun c_56 => ?_) (fun c_56 => ?_)
      · omega
      · refine ri_aload_n h d_Md_cellBox_59 rfl ?_
        refine ri_get h d_Md_cellBox_60 fl_Md_39 (by first | assumption | exact hS.mo | exact gup_s) (by rfl) ?_
        refine ri_iload h d_Md_cellBox_63 rfl ?_
        refine ri_ialdE h _ d_Md_cellBox_65 (by first | assumption | exact hS.a13) (by first | rfl | assumption) (by first | assumption | omega) (by first | decide | omega) (by first | assumption | exact hm.i13 (by first | assumption | omega) | rfl) ?_
        refine ri_istore h d_Md_cellBox_66 (Nat.le_of_ble_eq_true rfl) ?_
        refine ri_aload_n h d_Md_cellBox_68 rfl ?_
        refine ri_get h d_Md_cellBox_69 fl_Md_36 (by first | assumption | exact hS.mo | exact gup_s) (by rfl) ?_
        refine ri_iload h d_Md_cellBox_72 rfl ?_
        refine ri_ialdE h _ d_Md_cellBox_74 (by first | assumption | exact hS.a12) (by first | rfl | assumption) (by first | assumption | omega) (by first | decide | omega) (by first | assumption | exact hm.i12 (by first | assumption | omega) | rfl) ?_
        refine ri_iload_n h d_Md_cellBox_75 rfl ?_
        first | refine ri_icmpN_ne h 224 d_Md_cellBox_76 (by decide) (by omega) (by omega) (fun c_76 => ?_) (fun c_76 => ?_) | refine ri_icmp_ne h 224 d_Md_cellBox_76 (by decide) (fun c_76 => ?_) (fun c_76 => ?_)
        · exact ri_ls [(0, .ref (ad 30 0)), (1, .int (nI c)), (4, .int (nI p))] ⟨rfl, rfl, rfl, trivial⟩ (SK (by first | exact fun _ e => absurd e c_76 | exact fun hr e => by { have w := hr p ((hL.ps hc).mpr ⟨hpP, e⟩); rcases w with ⟨-, w⟩ | ⟨w, -⟩; exact w; exact absurd w (by show ¬ (1 : Int32) - N.i 42 (Q.pl p).of = 0; rw [show N.i 42 (Q.pl p).of = 0 from c_86]; decide) }))
        · refine ri_aload_n h d_Md_cellBox_79 rfl ?_
          refine ri_get h d_Md_cellBox_80 fl_Md_97 (by first | assumption | exact hS.mo | exact gup_s) (by rfl) ?_
          refine ri_iload h d_Md_cellBox_83 rfl ?_
          refine ri_zaldE h _ d_Md_cellBox_85 (by first | assumption | exact hS.a42) (by first | rfl | assumption) (by first | assumption | omega) (by first | decide | omega) (by first | assumption | assumption | rfl) ?_
          refine ri_if_ne h 92 d_Md_cellBox_86 (by decide) (fun c_86 => ?_) (fun c_86 => ?_)
          · exact ri_ls [(0, .ref (ad 30 0)), (1, .int (nI c)), (4, .int (nI p)), (5, .int (nI (Q.pl p).of))] ⟨rfl, rfl, rfl, rfl, trivial⟩ (TK c_76 ((h42 _ hof20).resolve_left c_86))
          · refine ri_goto h 224 d_Md_cellBox_89 (by decide) ?_
            exact ri_ls [(0, .ref (ad 30 0)), (1, .int (nI c)), (4, .int (nI p))] ⟨rfl, rfl, rfl, trivial⟩ (SK (by first | exact fun _ e => absurd e c_76 | exact fun hr e => by { have w := hr p ((hL.ps hc).mpr ⟨hpP, e⟩); rcases w with ⟨-, w⟩ | ⟨w, -⟩; exact w; exact absurd w (by show ¬ (1 : Int32) - N.i 42 (Q.pl p).of = 0; rw [show N.i 42 (Q.pl p).of = 0 from c_86]; decide) }))
  have hlen120 : ((Q.ce c).ss.filter (fun s => onB (Q.sh s) lay)).length ≤ 120 := Nat.le_trans (List.length_filter_le _ _) hWc.1
  have hol : (ownL Q lay c (0, 0, 0)).length ≤ 120 := by rw [List.length_map]; exact hlen120
  have LB : ∀ (N1 : MS), NV N N1 → MR0 Q N1 → fLs Q N1 0 (ownL Q lay c (0, 0, 0)) → ∀ (q k : Nat), k + q = (ownL Q lay c (0, 0, 0)).length → ∀ (M : gH) (b : BxR) (e : Int32), HS z ad Qc (mst N1 b e) M → (e = 0 ∨ e = 1) → HB (mbx (mst N1 b e)) (fun x y => ∃ w, w ∈ (ownL Q lay c (0, 0, 0)).take k ∧ IPt Q w x y) → G (gzz D s0 (p_, l', e_, R_, s_, m_, ar_, be_, me_, c_) (rk 5 0 0) (cbP z ad Q Qc N lay c) 7) 28 [(0, .ref (ad 30 0)), (1, .int (nI c)), (3, .int (nI (ownL Q lay c (0, 0, 0)).length)), (4, .int (nI k))] [] M 0 0 := by
    intro N1 hv hm1 hfl q
    induction q with
    | zero =>
      intro k hk M b e hS he hb
      have ht : (ownL Q lay c (0, 0, 0)).take k = ownL Q lay c (0, 0, 0) := List.take_of_length_le (by omega)
      rw [ht] at hb
      have hb' : HB (mbx (mst N1 b e)) (fun x y => ∃ s, s ∈ (Q.ce c).ss ∧ onB (Q.sh s) lay = true ∧ SPt (Q.sh s) x y) := by
        refine hb.cong (fun x y => ?_)
        constructor
        · rintro ⟨w, hw, x', y', h3, rfl, rfl⟩
          obtain ⟨s, h1, rfl⟩ := List.mem_map.mp hw
          obtain ⟨h1, h2⟩ := List.mem_filter.mp h1
          refine ⟨s, h1, h2, ?_⟩
          show SPt (Q.sh s) (0 + x') (0 + y')
          rw [Int.zero_add, Int.zero_add]
          exact h3
        · rintro ⟨s, h1, h2, h3⟩
          refine ⟨(s, 0, 0, 0), List.mem_map.mpr ⟨s, List.mem_filter.mpr ⟨h1, h2⟩, rfl⟩, x, y, h3, ?_, ?_⟩
          · show x = 0 + x
            rw [Int.zero_add]
          · show y = 0 + y
            rw [Int.zero_add]
      refine ri_iload h d_Md_cellBox_28 rfl ?_
      refine ri_iload_n h d_Md_cellBox_30 rfl ?_
      first | refine ri_icmpN_ge h 47 d_Md_cellBox_31 (by decide) (by omega) (by omega) (fun c_31 => ?_) (fun c_31 => ?_) | refine ri_icmp_ge h 47 d_Md_cellBox_31 (by decide) (fun c_31 => ?_) (fun c_31 => ?_)
      · refine ri_iconstN h 0 d_Md_cellBox_47 rfl ?_
        refine ri_istore h d_Md_cellBox_48 (Nat.le_of_ble_eq_true rfl) ?_
        exact ri_ls [(0, .ref (ad 30 0)), (1, .int (nI c)), (4, .int (nI 0))] ⟨rfl, rfl, rfl, trivial⟩ (LPP Q.nP 0 (by omega) M (mst N1 b e) hS (hv.trans NV.st) he (fun _ => hb'.cong fun x y => ⟨Or.inl, fun w => w.elim id (fun ⟨p', w1, _⟩ => by omega)⟩))
      · omega
    | succ q ih =>
      intro k hk M b e hS he hb
      have hkl : k < (ownL Q lay c (0, 0, 0)).length := by omega
      have hk3 : k < 3000 := by rw [List.length_map] at hkl; omega
      have ht := take_snoc (ownL Q lay c (0, 0, 0)) k hkl
      have hfk := hfl k hkl
      have hmem : (ownL Q lay c (0, 0, 0))[k] ∈ ownL Q lay c (0, 0, 0) := List.getElem_mem hkl
      generalize (ownL Q lay c (0, 0, 0))[k] = w at *
      obtain ⟨s, h1, hw⟩ := List.mem_map.mp hmem
      have hs := ((hL.ss hc).mp (List.mem_filter.mp h1).1).1
      subst hw
      refine ri_iload h d_Md_cellBox_28 rfl ?_
      refine ri_iload_n h d_Md_cellBox_30 rfl ?_
      first | refine ri_icmpN_ge h 47 d_Md_cellBox_31 (by decide) (by omega) (by omega) (fun c_31 => ?_) (fun c_31 => ?_) | refine ri_icmp_ge h 47 d_Md_cellBox_31 (by decide) (fun c_31 => ?_) (fun c_31 => ?_)
      · omega
      · refine ri_aload_n h d_Md_cellBox_34 rfl ?_
        refine ri_iconstN h 0 d_Md_cellBox_35 rfl ?_
        refine ri_iload h d_Md_cellBox_36 rfl ?_
        refine ri_dV0_2 (r := (gR6, gT6, 44)) h d_Md_cellBox_38 cv_Md_217 (by first | exact hS.lcO | exact hS.lsO | exact hS.lpO | exact hS.cesO (by first | assumption | omega) | exact hS.cepO (by first | assumption | omega) | exact ⟨_, (by first | assumption | exact hS.st | exact hS.mo | exact hS.out | exact hS.sb | exact hS.ce (by first | assumption | omega) | exact hS.ceb (by first | assumption | omega) | exact hS.sh (by first | assumption | omega) | exact hS.shb (by first | assumption | omega) | exact hS.pl (by first | assumption | omega) | exact hS.plb (by first | assumption | omega) | exact hS.fl (by first | assumption | omega) | exact gup_s | (refine gup_t (by assumption) ?_; first | assumption | exact gup_s | (refine gup_t (by assumption) ?_; first | assumption | exact gup_s | (refine gup_t (by assumption) ?_; first | assumption | exact gup_s))))⟩) rfl (k_mboxOf (N := mst N1 b e) (set := 0) (i := k) (t := (s, 0, 0, 0)) h0 hS hm1 hW hX (by decide) hk3 hfk hs (by show 0 < 8; decide) (hP s hs) (show Big 0 from ⟨by decide, by decide⟩) (show Big 0 from ⟨by decide, by decide⟩) he hb) (Nat.le_of_ble_eq_true rfl) (Nat.le_of_ble_eq_true rfl) (Nat.le_of_ble_eq_true rfl) (Nat.le_of_ble_eq_true rfl) (Nat.le_of_ble_eq_true rfl) (fun M hS => ?_)
        obtain ⟨b', e', hS, he', hb'⟩ := hS
        first | refine ri_iincN h d_Md_cellBox_41 rfl (Nat.le_of_ble_eq_true rfl) ?_ | refine ri_iinc h _ d_Md_cellBox_41 rfl rfl (Nat.le_of_ble_eq_true rfl) ?_
        refine ri_goto h 28 d_Md_cellBox_44 (by decide) ?_
        exact ri_ls [(0, .ref (ad 30 0)), (1, .int (nI c)), (3, .int (nI (ownL Q lay c (0, 0, 0)).length)), (4, .int (nI (k + 1)))] ⟨rfl, rfl, rfl, rfl, trivial⟩ (ih (k + 1) (by omega) M b' e' hS he' (hb'.cong fun x y => by rw [ht]; constructor; (rintro (⟨w, w1, w2⟩ | w2); exact ⟨w, List.mem_append_left _ w1, w2⟩; exact ⟨_, List.mem_append_right _ (List.mem_singleton.mpr rfl), w2⟩); (rintro ⟨w, w1, w2⟩; rcases List.mem_append.mp w1 with w1 | w1; exact Or.inl ⟨w, w1, w2⟩; exact Or.inr (List.mem_singleton.mp w1 ▸ w2))))
  refine ri_aload_n h d_Md_cellBox_0 rfl ?_
  refine ri_iconstN h 0 d_Md_cellBox_1 rfl ?_
  refine ri_pm_any h d_Md_cellBox_2 fl_Md_192 hS (by first | exact Or.inl rfl | exact Or.inr rfl | assumption) (fun M hS => ?_)
  refine ri_aload_n h d_Md_cellBox_5 rfl ?_
  refine ri_iconstN h 0 d_Md_cellBox_6 rfl ?_
  refine ri_pm_depth h d_Md_cellBox_7 fl_Md_165 hS (fun M hS => ?_)
  refine ri_aload_n h d_Md_cellBox_10 rfl ?_
  refine ri_get h d_Md_cellBox_11 fl_Md_82 (by first | assumption | exact hS.mo | exact gup_s) (by rfl) ?_
  refine ri_iconstN h 0 d_Md_cellBox_14 rfl ?_
  refine ri_iload_n h d_Md_cellBox_15 rfl ?_
  refine ri_iast h _ d_Md_cellBox_16 (by first | assumption | exact hS.a29) (by first | rfl | assumption) (by first | assumption | omega) (by first | decide | omega) ?_
  refine ri_gH (hS.set_mi 29 rfl _) (fun M hS => ?_)
  refine ri_aload_n h d_Md_cellBox_17 rfl ?_
  refine ri_iconstN h 0 d_Md_cellBox_18 rfl ?_
  refine ri_iconstN h 0 d_Md_cellBox_19 rfl ?_
  refine ri_iload_n h d_Md_cellBox_20 rfl ?_
  refine ri_dVv_3 (r := (gR6, gT6, 44)) h d_Md_cellBox_21 cv_Md_173 ⟨_, hS.mo⟩ rfl (k_mown (lay := lay) (st := fun _ => (0, 0, 0)) (d := 0) (ts := []) (set := 0) h0 hS (show MR0 Q _ from hm0.ne (NE.i 29 (by decide) _)) hW hL hX hC (by decide) (by decide) rfl hc rfl (fun j hj => absurd hj (Nat.not_lt_zero j)) (fun i hi => absurd hi (Nat.not_lt_zero i)) (fun w hw => absurd hw (by simp)) (by simpa using (show ((Q.ce c).ss.filter (fun s => onB (Q.sh s) lay)).length ≤ 3000 by omega))) (Nat.le_of_ble_eq_true rfl) (Nat.le_of_ble_eq_true rfl) (Nat.le_of_ble_eq_true rfl) (Nat.le_of_ble_eq_true rfl) (Nat.le_of_ble_eq_true rfl) (fun M hS => ?_)
  obtain ⟨N5, hS, hno, hf5⟩ := hS
  rw [List.nil_append] at hf5
  refine ri_istore_n h d_Md_cellBox_24 (Nat.le_of_ble_eq_true rfl) ?_
  refine ri_iconstN h 0 d_Md_cellBox_25 rfl ?_
  refine ri_istore h d_Md_cellBox_26 (Nat.le_of_ble_eq_true rfl) ?_
  have hany5 : N5.any = 0 := hno.2.1.2.1
  have hv5 : NV N N5 := NV.trans ⟨⟨NE.i 29 (by decide) _, fun _ _ => ⟨rfl, rfl⟩, fun _ _ => ⟨rfl, rfl⟩⟩, rfl, rfl⟩ hno.nv
  exact ri_ls [(0, .ref (ad 30 0)), (1, .int (nI c)), (3, .int (nI (ownL Q lay c (0, 0, 0)).length)), (4, .int (nI 0))] ⟨rfl, rfl, rfl, rfl, trivial⟩ (LB N5 hv5 (hm0.ne hv5.1.1) hf5 (ownL Q lay c (0, 0, 0)).length 0 (by omega) M (mbx N5) N5.any hS (Or.inl hany5) (Or.inl ⟨by show (1 : Int32) - N5.any = 1; rw [hany5]; decide, fun x y ⟨w, hw, _⟩ => absurd hw (by simp)⟩))
end CBX
