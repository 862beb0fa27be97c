/-! Flat: add, layCell, layPlace, lay -/
/-- the class's rows of flat shapes -/
def cLs (Q : CS) (r : FlR) (ts : List It) : Prop := r.cnt = ts.length ∧ ∀ (i : Nat) (h : i < ts.length), r.sh i = some ts[i].1 ∧ r.cor i = (Q.sh ts[i].1).cnt ∧ r.tu i = ts[i].2.1 ∧ r.xs i = ts[i].2.2.1 ∧ r.ys i = ts[i].2.2.2
def fkp (nS : Nat) (r r' : FlR) : Prop := r'.layer = r.layer ∧ r'.mark = r.mark ∧ r'.srt = r.srt ∧ r'.ord = r.ord ∧ r'.spa = r.spa ∧ ∀ i s, r'.sh i = some s → s < nS
def faddR (r : FlR) (s n t : Nat) (x y : Int64) : FlR := (((((r.set_sh (va_up r.sh r.cnt (some s))).set_cor (va_up r.cor r.cnt n)).set_tu (va_up r.tu r.cnt t)).set_xs (va_up r.xs r.cnt x)).set_ys (va_up r.ys r.cnt y)).set_cnt (r.cnt + 1)
theorem cLs_add {Q : CS} {r : FlR} {ts : List It} {s t : Nat} {x y : Int64} (h : cLs Q r ts) : cLs Q (faddR r s (Q.sh s).cnt t x y) (ts ++ [(s, t, x, y)]) := by
  obtain ⟨h1, h2⟩ := h
  refine ⟨by rw [List.length_append, ← h1]; rfl, fun i hi => ?_⟩
  rw [List.length_append, List.length_singleton] at hi
  show va_up r.sh r.cnt (some s) i = _ ∧ va_up r.cor r.cnt (Q.sh s).cnt i = _ ∧ va_up r.tu r.cnt t i = _ ∧ va_up r.xs r.cnt x i = _ ∧ va_up r.ys r.cnt y i = _
  rcases (show i < ts.length ∨ i = ts.length by omega) with q | rfl
  · rw [List.getElem_append_left q, va_up_n (by omega), va_up_n (by omega), va_up_n (by omega), va_up_n (by omega), va_up_n (by omega)]
    exact h2 i q
  · rw [List.getElem_append_right (Nat.le_refl _), h1]
    simp [va_up_s]
theorem fkp_add {nS : Nat} {r : FlR} {s n t : Nat} {x y : Int64} (hs : s < nS) (h : ∀ i s, r.sh i = some s → s < nS) : fkp nS r (faddR r s n t x y) := by
  refine ⟨rfl, rfl, rfl, rfl, rfl, fun i q hq => ?_⟩
  have hq : va_up r.sh r.cnt (some s) i = some q := hq
  unfold va_up at hq
  split at hq
  · cases hq; exact hs
  · exact h i q hq
theorem fkp.trans {nS : Nat} {r r1 r2 : FlR} (h : fkp nS r r1) (h2 : fkp nS r1 r2) : fkp nS r r2 := ⟨h2.1.trans h.1, h2.2.1.trans h.2.1, h2.2.2.1.trans h.2.2.1, h2.2.2.2.1.trans h.2.2.2.1, h2.2.2.2.2.1.trans h.2.2.2.2.1, h2.2.2.2.2.2⟩
section CLA
variable {l : Launch} {D : gD} {s0 : State} {M : gH} {z : Nat} {ad : gA} {Q : CS} {N : MS} {m : Nat → Int32} {sz : Nat → Nat} {b pb : Nat → BxR} {lay : Int32} {j : Nat}
theorem k_fadd (h0 : g_0 l D s0) (hS : HS z ad Q N M) (hj : j < 3) {r : FlR} (h_fl : Q.fl j = r) (hc : r.cnt < 3000) {s t : Nat} (hs : s < Q.nS) {x y : Int64} : Ct l D s0 y_Fl_add (Cond.code y_Fl_add b_Fl_add 7 none) (rk 1 0 0) [.ref (ad 3 j), .ref (ad 18 s), .int (nI t), .long x, .long y] M (fS none (HS z ad (Q.set_fl (va_up Q.fl j (faddR r s (Q.sh s).cnt t x y))) N)) := by
  refine Ct.of h0 (by decide +kernel) rfl fun X hX h => ?_
  obtain ⟨p_, l', e_, R_, s_, m_, ar_, be_, me_, c_⟩ := X
  obtain rfl : l' = l := hX
  refine ri_aload_n h d_Fl_add_0 rfl ?_
  refine ri_get h d_Fl_add_1 fl_Fl_37 (by first | assumption | exact hS.fl_of (by first | assumption | omega) (by assumption) | exact hS.fl (by first | assumption | omega) | exact gup_s) (by rfl) ?_
  refine ri_sipushN h 3000 d_Fl_add_4 rfl ?_
  first | refine ri_icmpN_lt h 11 d_Fl_add_7 (by decide) (by omega) (by omega) (fun c_7 => ?_) (fun c_7 => ?_) | refine ri_icmp_lt h 11 d_Fl_add_7 (by decide) (fun c_7 => ?_) (fun c_7 => ?_)
  · refine ri_aload_n h d_Fl_add_11 rfl ?_
    refine ri_get h d_Fl_add_12 fl_Fl_11 (by first | assumption | exact hS.fl_of (by first | assumption | omega) (by assumption) | exact hS.fl (by first | assumption | omega) | exact gup_s) (by rfl) ?_
    refine ri_aload_n h d_Fl_add_15 rfl ?_
    refine ri_get h d_Fl_add_16 fl_Fl_37 (by first | assumption | exact hS.fl_of (by first | assumption | omega) (by assumption) | exact hS.fl (by first | assumption | omega) | exact gup_s) (by rfl) ?_
    refine ri_aload_n h d_Fl_add_19 rfl ?_
    refine ri_aast h _ d_Fl_add_20 (by first | assumption | exact hS.fls_of (by first | assumption | omega) (by assumption) | exact hS.fls (by first | assumption | omega)) (by first | exact hS.sh_of (by first | assumption | omega) (by assumption) | exact hS.sh (by first | assumption | omega)) gFit44 (by first | rfl | assumption) (by first | assumption | omega) (by first | decide | omega) ?_
    refine ri_gH2 (hS.p_fls (by first | assumption | omega) (by first | assumption | rfl) _ _) (fun M hS h_fl => ?_)
    refine ri_aload_n h d_Fl_add_21 rfl ?_
    refine ri_get h d_Fl_add_22 fl_Fl_17 (by first | assumption | exact hS.fl_of (by first | assumption | omega) (by assumption) | exact hS.fl (by first | assumption | omega) | exact gup_s) (by rfl) ?_
    refine ri_aload_n h d_Fl_add_25 rfl ?_
    refine ri_get h d_Fl_add_26 fl_Fl_37 (by first | assumption | exact hS.fl_of (by first | assumption | omega) (by assumption) | exact hS.fl (by first | assumption | omega) | exact gup_s) (by rfl) ?_
    refine ri_aload_n h d_Fl_add_29 rfl ?_
    refine ri_get h d_Fl_add_30 fl_Fl_119 (by first | assumption | exact hS.sh_of (by first | assumption | omega) (by assumption) | exact hS.sh (by first | assumption | omega) | exact gup_s) (by rfl) ?_
    refine ri_iast h _ d_Fl_add_33 (by first | assumption | exact hS.flc_of (by first | assumption | omega) (by assumption) | exact hS.flc (by first | assumption | omega)) (by first | rfl | assumption) (by first | assumption | omega) (by first | decide | omega) ?_
    refine ri_gH2 (hS.p_flc (by first | assumption | omega) (by first | assumption | rfl) _ _) (fun M hS h_fl => ?_)
    refine ri_aload_n h d_Fl_add_34 rfl ?_
    refine ri_get h d_Fl_add_35 fl_Fl_21 (by first | assumption | exact hS.fl_of (by first | assumption | omega) (by assumption) | exact hS.fl (by first | assumption | omega) | exact gup_s) (by rfl) ?_
    refine ri_aload_n h d_Fl_add_38 rfl ?_
    refine ri_get h d_Fl_add_39 fl_Fl_37 (by first | assumption | exact hS.fl_of (by first | assumption | omega) (by assumption) | exact hS.fl (by first | assumption | omega) | exact gup_s) (by rfl) ?_
    refine ri_iload_n h d_Fl_add_42 rfl ?_
    refine ri_iast h _ d_Fl_add_43 (by first | assumption | exact hS.flt_of (by first | assumption | omega) (by assumption) | exact hS.flt (by first | assumption | omega)) (by first | rfl | assumption) (by first | assumption | omega) (by first | decide | omega) ?_
    refine ri_gH2 (hS.p_flt (by first | assumption | omega) (by first | assumption | rfl) _ _) (fun M hS h_fl => ?_)
    refine ri_aload_n h d_Fl_add_44 rfl ?_
    refine ri_get h d_Fl_add_45 fl_Fl_24 (by first | assumption | exact hS.fl_of (by first | assumption | omega) (by assumption) | exact hS.fl (by first | assumption | omega) | exact gup_s) (by rfl) ?_
    refine ri_aload_n h d_Fl_add_48 rfl ?_
    refine ri_get h d_Fl_add_49 fl_Fl_37 (by first | assumption | exact hS.fl_of (by first | assumption | omega) (by assumption) | exact hS.fl (by first | assumption | omega) | exact gup_s) (by rfl) ?_
    refine ri_lload_n h d_Fl_add_52 rfl ?_
    refine ri_last h _ d_Fl_add_53 (by first | assumption | exact hS.flx_of (by first | assumption | omega) (by assumption) | exact hS.flx (by first | assumption | omega)) (by first | rfl | assumption) (by first | assumption | omega) (by first | decide | omega) ?_
    refine ri_gH2 (hS.p_flx (by first | assumption | omega) (by first | assumption | rfl) _) (fun M hS h_fl => ?_)
    refine ri_aload_n h d_Fl_add_54 rfl ?_
    refine ri_get h d_Fl_add_55 fl_Fl_28 (by first | assumption | exact hS.fl_of (by first | assumption | omega) (by assumption) | exact hS.fl (by first | assumption | omega) | exact gup_s) (by rfl) ?_
    refine ri_aload_n h d_Fl_add_58 rfl ?_
    refine ri_get h d_Fl_add_59 fl_Fl_37 (by first | assumption | exact hS.fl_of (by first | assumption | omega) (by assumption) | exact hS.fl (by first | assumption | omega) | exact gup_s) (by rfl) ?_
    refine ri_lload h d_Fl_add_62 rfl ?_
    refine ri_last h _ d_Fl_add_64 (by first | assumption | exact hS.fly_of (by first | assumption | omega) (by assumption) | exact hS.fly (by first | assumption | omega)) (by first | rfl | assumption) (by first | assumption | omega) (by first | decide | omega) ?_
    refine ri_gH2 (hS.p_fly (by first | assumption | omega) (by first | assumption | rfl) _) (fun M hS h_fl => ?_)
    refine ri_aload_n h d_Fl_add_65 rfl ?_
    refine ri_dup h d_Fl_add_66 rfl ?_
    refine ri_get h d_Fl_add_67 fl_Fl_37 (by first | assumption | exact hS.fl_of (by first | assumption | omega) (by assumption) | exact hS.fl (by first | assumption | omega) | exact gup_s) (by rfl) ?_
    refine ri_iconstN h 1 d_Fl_add_70 rfl ?_
    first | refine ri_iaddN h d_Fl_add_71 ?_ | refine ri_iadd h d_Fl_add_71 ?_
    refine ri_p_fcnt h d_Fl_add_72 fl_Fl_37 hS (by first | assumption | omega) (by first | assumption | rfl) (fun M hS h_fl => ?_)
    refine ri_return h d_Fl_add_75 (Nat.le_of_ble_eq_true rfl) (Nat.le_of_ble_eq_true rfl) ?_
    exact ⟨rfl, hS.fl2.fl2.fl2.fl2.fl2⟩
  · omega
/-- the state while a flat row is laid -/
abbrev lq (Q : CS) (m : Nat → Int32) (sz : Nat → Nat) (b pb : Nat → BxR) (j : Nat) (r : FlR) : CS := (msQ Q m sz b pb).set_fl (va_up Q.fl j r)
abbrev clP (z : Nat) (ad : gA) (Q : CS) (N : MS) (m : Nat → Int32) (sz : Nat → Nat) (b pb : Nat → BxR) (j : Nat) (r : FlR) (ts : List It) : gH → Prop := fun M' => ∃ r', HS z ad (lq Q m sz b pb j r') N M' ∧ cLs Q r' ts ∧ fkp Q.nS r r'
theorem k_layPlace (h0 : g_0 l D s0) (hL : WL Q) (hj : j < 3) {n p d : Nat} (hp : p < Q.nP) (hd : d + 1 ≤ 20) {t : Tm} (ht : t.1 < 8)
    (IH : ∀ (t' : Tm) (r : FlR) (ts : List It) (M : gH), t'.1 < 8 → HS z ad (lq Q m sz b pb j r) N M → cLs Q r ts → r.layer = lay → (∀ i s, r.sh i = some s → s < Q.nS) → (ts ++ FLn Q lay n (Q.pl p).of t').length ≤ 3000 → Ct l D s0 y_Fl_layCell (Cond.code y_Fl_layCell b_Fl_layCell 10 none) (rk (2 * n + 8) 0 0) [.ref (ad 3 j), .ref (ad 12 (Q.pl p).of), .int (nI t'.1), .long t'.2.1, .long t'.2.2, .int (nI (d + 1))] M (fS none (clP z ad Q N m sz b pb j r (ts ++ FLn Q lay n (Q.pl p).of t')))) :
    ∀ (r : FlR) (ts : List It) (M : gH), HS z ad (lq Q m sz b pb j r) N M → cLs Q r ts → r.layer = lay → (∀ i s, r.sh i = some s → s < Q.nS) → (ts ++ (rowsF (Q.pl p) p 0).flatMap (fun x => FLn Q lay n (Q.pl x.1).of (nxt t (Q.pl x.1) x.2.1 x.2.2))).length ≤ 3000 → Ct l D s0 y_Fl_layPlace (Cond.code y_Fl_layPlace b_Fl_layPlace 15 none) (rk (2 * n + 9) 0 0) [.ref (ad 3 j), .ref (ad 24 p), .int (nI t.1), .long t.2.1, .long t.2.2, .int (nI d)] M (fS none (clP z ad Q N m sz b pb j r (ts ++ (rowsF (Q.pl p) p 0).flatMap (fun x => FLn Q lay n (Q.pl x.1).of (nxt t (Q.pl x.1) x.2.1 x.2.2))))) := by
  intro r0 ts0 M hS hc hl hsh hlen
  obtain ⟨g1, g2, g3, g4, g5, -⟩ := hL.2.1 p hp
  refine Ct.of h0 (by decide +kernel) rfl fun X hX h => ?_
  obtain ⟨p_, l', e_, R_, s_, m_, ar_, be_, me_, c_⟩ := X
  obtain rfl : l' = l := hX
  have LR : ∀ (q rw_ : Nat), rw_ + q = (Q.pl p).rows → ∀ (M : gH) (r : FlR) (ts : List It), HS z ad (lq Q m sz b pb j r) N M → cLs Q r ts → fkp Q.nS r0 r → ts ++ (rowsF (Q.pl p) p rw_).flatMap (fun x => FLn Q lay n (Q.pl x.1).of (nxt t (Q.pl x.1) x.2.1 x.2.2)) = ts0 ++ (rowsF (Q.pl p) p 0).flatMap (fun x => FLn Q lay n (Q.pl x.1).of (nxt t (Q.pl x.1) x.2.1 x.2.2)) → G (gzz D s0 (p_, l', e_, R_, s_, m_, ar_, be_, me_, c_) (rk (2 * n + 9) 0 0) (fS none (clP z ad Q N m sz b pb j r0 (ts0 ++ (rowsF (Q.pl p) p 0).flatMap (fun x => FLn Q lay n (Q.pl x.1).of (nxt t (Q.pl x.1) x.2.1 x.2.2))))) 15) 13 [(0, .ref (ad 3 j)), (1, .ref (ad 24 p)), (2, .int (nI t.1)), (3, .long t.2.1), (5, .long t.2.2), (7, .int (nI d)), (8, .int (nI (bth t.1 (Q.pl p).turn))), (9, .int (nI rw_))] [] M 0 0 := by
    intro q
    induction q with
    | zero =>
      intro rw_ hr M r ts hS hc hk he
      have h_pl : (lq Q m sz b pb j r).pl p = (Q.pl p).set_bx (pb p) := rfl
      rw [rowsF_n (j := rw_) (by omega), List.flatMap_nil, List.append_nil] at he
      subst he
      refine ri_iload h d_Fl_layPlace_13 rfl ?_
      refine ri_aload_n h d_Fl_layPlace_15 rfl ?_
      refine ri_get h d_Fl_layPlace_16 fl_Fl_93 (hS.pl_of hp h_pl) (v := .int (nI (Q.pl p).rows)) rfl ?_
      first | refine ri_icmpN_ge h 111 d_Fl_layPlace_19 (by decide) (by omega) (by omega) (fun c_19 => ?_) (fun c_19 => ?_) | refine ri_icmp_ge h 111 d_Fl_layPlace_19 (by decide) (fun c_19 => ?_) (fun c_19 => ?_)
      · first
        | (exfalso; first | exact absurd c_19 (by decide) | omega)
        | (refine ri_return h d_Fl_layPlace_111 (by first | (dsimp only [rk]; omega) | omega | exact Nat.le_of_ble_eq_true rfl) (by first | (dsimp only [rk]; omega) | omega | exact Nat.le_of_ble_eq_true rfl) ?_
           exact ⟨rfl, r, hS, hc, hk⟩)
      · first
        | (exfalso; first | exact absurd c_19 (by decide) | omega)
        | (omega)
    | succ q ih =>
      intro rw_ hr M r ts hS hc hk he
      have h_pl : (lq Q m sz b pb j r).pl p = (Q.pl p).set_bx (pb p) := rfl
      rw [rowsF_c (j := rw_) (by omega), List.flatMap_append, ← List.append_assoc] at he
      have LC : ∀ (q' co : Nat), co + q' = (Q.pl p).cols → ∀ (M : gH) (r' : FlR) (ts' : List It), HS z ad (lq Q m sz b pb j r') N M → cLs Q r' ts' → fkp Q.nS r0 r' → ts' ++ (colsF (Q.pl p) p co rw_).flatMap (fun x => FLn Q lay n (Q.pl x.1).of (nxt t (Q.pl x.1) x.2.1 x.2.2)) = ts ++ (colsF (Q.pl p) p 0 rw_).flatMap (fun x => FLn Q lay n (Q.pl x.1).of (nxt t (Q.pl x.1) x.2.1 x.2.2)) → G (gzz D s0 (p_, l', e_, R_, s_, m_, ar_, be_, me_, c_) (rk (2 * n + 9) 0 0) (fS none (clP z ad Q N m sz b pb j r0 (ts0 ++ (rowsF (Q.pl p) p 0).flatMap (fun x => FLn Q lay n (Q.pl x.1).of (nxt t (Q.pl x.1) x.2.1 x.2.2))))) 15) 25 [(0, .ref (ad 3 j)), (1, .ref (ad 24 p)), (2, .int (nI t.1)), (3, .long t.2.1), (5, .long t.2.2), (7, .int (nI d)), (8, .int (nI (bth t.1 (Q.pl p).turn))), (9, .int (nI rw_)), (10, .int (nI co))] [] M 0 0 := by
        intro q'
        induction q' with
        | zero =>
          intro co hco M r' ts' hS hc' hk' he'
          have h_pl : (lq Q m sz b pb j r').pl p = (Q.pl p).set_bx (pb p) := rfl
          rw [colsF_n (i := co) (by omega), List.flatMap_nil, List.append_nil] at he'
          rw [← he'] at he
          refine ri_iload h d_Fl_layPlace_25 rfl ?_
          refine ri_aload_n h d_Fl_layPlace_27 rfl ?_
          refine ri_get h d_Fl_layPlace_28 fl_Fl_96 (hS.pl_of hp h_pl) (v := .int (nI (Q.pl p).cols)) rfl ?_
          first | refine ri_icmpN_ge h 105 d_Fl_layPlace_31 (by decide) (by omega) (by omega) (fun c_31 => ?_) (fun c_31 => ?_) | refine ri_icmp_ge h 105 d_Fl_layPlace_31 (by decide) (fun c_31 => ?_) (fun c_31 => ?_)
          · first
            | (exfalso; first | exact absurd c_31 (by decide) | omega)
            | (first | refine ri_iincN h d_Fl_layPlace_105 rfl (by first | (dsimp only [rk]; omega) | omega | exact Nat.le_of_ble_eq_true rfl) ?_ | refine ri_iinc h _ d_Fl_layPlace_105 rfl rfl (by first | (dsimp only [rk]; omega) | omega | exact Nat.le_of_ble_eq_true rfl) ?_
               refine ri_goto h 13 d_Fl_layPlace_108 (by decide) ?_
               exact ri_ls [(0, .ref (ad 3 j)), (1, .ref (ad 24 p)), (2, .int (nI t.1)), (3, .long t.2.1), (5, .long t.2.2), (7, .int (nI d)), (8, .int (nI (bth t.1 (Q.pl p).turn))), (9, .int (nI (rw_ + 1)))] ⟨rfl, rfl, rfl, rfl, rfl, rfl, rfl, rfl, trivial⟩ (ih (rw_ + 1) (by omega) M r' ts' hS hc' hk' he))
          · first
            | (exfalso; first | exact absurd c_31 (by decide) | omega)
            | (omega)
        | succ q' ihc =>
          intro co hco M r' ts' hS hc' hk' he'
          have h_pl : (lq Q m sz b pb j r').pl p = (Q.pl p).set_bx (pb p) := rfl
          rw [colsF_c (i := co) (by omega), List.flatMap_cons, ← List.append_assoc] at he'
          have hln2 := hlen
          rw [← he, ← he', List.length_append, List.length_append] at hln2
          refine ri_iload h d_Fl_layPlace_25 rfl ?_
          refine ri_aload_n h d_Fl_layPlace_27 rfl ?_
          refine ri_get h d_Fl_layPlace_28 fl_Fl_96 (hS.pl_of hp h_pl) (v := .int (nI (Q.pl p).cols)) rfl ?_
          first | refine ri_icmpN_ge h 105 d_Fl_layPlace_31 (by decide) (by omega) (by omega) (fun c_31 => ?_) (fun c_31 => ?_) | refine ri_icmp_ge h 105 d_Fl_layPlace_31 (by decide) (fun c_31 => ?_) (fun c_31 => ?_)
          · omega
          · refine ri_aload_n h d_Fl_layPlace_34 rfl ?_
            refine ri_get h d_Fl_layPlace_35 fl_Fl_99 (by first | assumption | exact hS.pl_of (by first | assumption | omega) (by assumption) | exact hS.pl (by first | assumption | omega) | exact gup_s) (by rfl) ?_
            refine ri_iload h d_Fl_layPlace_38 rfl ?_
            first | refine ri_i2lN h d_Fl_layPlace_40 (by omega) ?_ | refine ri_i2l h d_Fl_layPlace_40 ?_
            refine ri_aload_n h d_Fl_layPlace_41 rfl ?_
            refine ri_get h d_Fl_layPlace_42 fl_Fl_103 (by first | assumption | exact hS.pl_of (by first | assumption | omega) (by assumption) | exact hS.pl (by first | assumption | omega) | exact gup_s) (by rfl) ?_
            first | refine ri_lmulN h d_Fl_layPlace_45 ?_ | refine ri_lmul h d_Fl_layPlace_45 ?_
            first | refine ri_laddN h d_Fl_layPlace_46 ?_ | refine ri_ladd h d_Fl_layPlace_46 ?_
            refine ri_lstore h d_Fl_layPlace_47 (by first | (dsimp only [rk]; omega) | omega | exact Nat.le_of_ble_eq_true rfl) ?_
            refine ri_aload_n h d_Fl_layPlace_49 rfl ?_
            refine ri_get h d_Fl_layPlace_50 fl_Fl_106 (by first | assumption | exact hS.pl_of (by first | assumption | omega) (by assumption) | exact hS.pl (by first | assumption | omega) | exact gup_s) (by rfl) ?_
            refine ri_iload h d_Fl_layPlace_53 rfl ?_
            first | refine ri_i2lN h d_Fl_layPlace_55 (by omega) ?_ | refine ri_i2l h d_Fl_layPlace_55 ?_
            refine ri_aload_n h d_Fl_layPlace_56 rfl ?_
            refine ri_get h d_Fl_layPlace_57 fl_Fl_109 (by first | assumption | exact hS.pl_of (by first | assumption | omega) (by assumption) | exact hS.pl (by first | assumption | omega) | exact gup_s) (by rfl) ?_
            first | refine ri_lmulN h d_Fl_layPlace_60 ?_ | refine ri_lmul h d_Fl_layPlace_60 ?_
            first | refine ri_laddN h d_Fl_layPlace_61 ?_ | refine ri_ladd h d_Fl_layPlace_61 ?_
            refine ri_lstore h d_Fl_layPlace_62 (by first | (dsimp only [rk]; omega) | omega | exact Nat.le_of_ble_eq_true rfl) ?_
            refine ri_aload_n h d_Fl_layPlace_64 rfl ?_
            refine ri_aload_n h d_Fl_layPlace_65 rfl ?_
            refine ri_get h d_Fl_layPlace_66 fl_Fl_76 (by first | assumption | exact hS.pl_of (by first | assumption | omega) (by assumption) | exact hS.pl (by first | assumption | omega) | exact gup_s) (by rfl) ?_
            refine ri_iload h d_Fl_layPlace_69 rfl ?_
            refine ri_lload_n h d_Fl_layPlace_71 rfl ?_
            refine ri_iload_n h d_Fl_layPlace_72 rfl ?_
            refine ri_lload h d_Fl_layPlace_73 rfl ?_
            refine ri_lload h d_Fl_layPlace_75 rfl ?_
            refine ri_cSNv_3 h d_Fl_layPlace_77 cs_Fl_112 (k_turnedX h0 t.1 ht _ _) (by first | (dsimp only [rk]; omega) | omega | exact Nat.le_of_ble_eq_true rfl) (by first | (dsimp only [rk]; omega) | omega | exact Nat.le_of_ble_eq_true rfl) (by first | (dsimp only [rk]; omega) | omega | exact Nat.le_of_ble_eq_true rfl) (by first | (dsimp only [rk]; omega) | omega | exact Nat.le_of_ble_eq_true rfl) (by first | (dsimp only [rk]; omega) | omega | exact Nat.le_of_ble_eq_true rfl) ?_
            first | refine ri_laddN h d_Fl_layPlace_80 ?_ | refine ri_ladd h d_Fl_layPlace_80 ?_
            refine ri_lload h d_Fl_layPlace_81 rfl ?_
            refine ri_iload_n h d_Fl_layPlace_83 rfl ?_
            refine ri_lload h d_Fl_layPlace_84 rfl ?_
            refine ri_lload h d_Fl_layPlace_86 rfl ?_
            refine ri_cSNv_3 h d_Fl_layPlace_88 cs_Fl_116 (k_turnedY h0 t.1 ht _ _) (by first | (dsimp only [rk]; omega) | omega | exact Nat.le_of_ble_eq_true rfl) (by first | (dsimp only [rk]; omega) | omega | exact Nat.le_of_ble_eq_true rfl) (by first | (dsimp only [rk]; omega) | omega | exact Nat.le_of_ble_eq_true rfl) (by first | (dsimp only [rk]; omega) | omega | exact Nat.le_of_ble_eq_true rfl) (by first | (dsimp only [rk]; omega) | omega | exact Nat.le_of_ble_eq_true rfl) ?_
            first | refine ri_laddN h d_Fl_layPlace_91 ?_ | refine ri_ladd h d_Fl_layPlace_91 ?_
            refine ri_iload h d_Fl_layPlace_92 rfl ?_
            refine ri_iconstN h 1 d_Fl_layPlace_94 rfl ?_
            first | refine ri_iaddN h d_Fl_layPlace_95 ?_ | refine ri_iadd h d_Fl_layPlace_95 ?_
            refine ri_dV0_5 (r := (gR2, gT2, 11)) h d_Fl_layPlace_96 cv_Fl_44 ⟨_, hS.fl_of hj va_up_s⟩ rfl (IH (nxt t (Q.pl p) co rw_) r' ts' M (bth_lt _ _) hS hc' (hk'.1.trans hl) hk'.2.2.2.2.2 (Nat.le_trans (Nat.le_trans (Nat.le_add_right _ _) (Nat.le_add_right _ _)) hln2)) (by decide) (by dsimp only [rk]; omega) (by dsimp only [rk]; omega) (by dsimp only [rk]; omega) (by dsimp only [rk]; omega) (fun M hS => ?_)
            obtain ⟨r2, hS, hc2, hk2⟩ := hS
            first | refine ri_iincN h d_Fl_layPlace_99 rfl (by first | (dsimp only [rk]; omega) | omega | exact Nat.le_of_ble_eq_true rfl) ?_ | refine ri_iinc h _ d_Fl_layPlace_99 rfl rfl (by first | (dsimp only [rk]; omega) | omega | exact Nat.le_of_ble_eq_true rfl) ?_
            refine ri_goto h 25 d_Fl_layPlace_102 (by decide) ?_
            exact ri_ls [(0, .ref (ad 3 j)), (1, .ref (ad 24 p)), (2, .int (nI t.1)), (3, .long t.2.1), (5, .long t.2.2), (7, .int (nI d)), (8, .int (nI (bth t.1 (Q.pl p).turn))), (9, .int (nI rw_)), (10, .int (nI (co + 1)))] ⟨rfl, rfl, rfl, rfl, rfl, rfl, rfl, rfl, rfl, trivial⟩ (ihc (co + 1) (by omega) M r2 _ hS hc2 (hk'.trans hk2) he')
      refine ri_iload h d_Fl_layPlace_13 rfl ?_
      refine ri_aload_n h d_Fl_layPlace_15 rfl ?_
      refine ri_get h d_Fl_layPlace_16 fl_Fl_93 (hS.pl_of hp h_pl) (v := .int (nI (Q.pl p).rows)) rfl ?_
      first | refine ri_icmpN_ge h 111 d_Fl_layPlace_19 (by decide) (by omega) (by omega) (fun c_19 => ?_) (fun c_19 => ?_) | refine ri_icmp_ge h 111 d_Fl_layPlace_19 (by decide) (fun c_19 => ?_) (fun c_19 => ?_)
      · omega
      · refine ri_iconstN h 0 d_Fl_layPlace_22 rfl ?_
        refine ri_istore h d_Fl_layPlace_23 (by first | (dsimp only [rk]; omega) | omega | exact Nat.le_of_ble_eq_true rfl) ?_
        exact ri_ls [(0, .ref (ad 3 j)), (1, .ref (ad 24 p)), (2, .int (nI t.1)), (3, .long t.2.1), (5, .long t.2.2), (7, .int (nI d)), (8, .int (nI (bth t.1 (Q.pl p).turn))), (9, .int (nI rw_)), (10, .int (nI 0))] ⟨rfl, rfl, rfl, rfl, rfl, rfl, rfl, rfl, rfl, trivial⟩ (LC (Q.pl p).cols 0 (by omega) M r ts hS hc hk rfl)
  have h_pl : (lq Q m sz b pb j r0).pl p = (Q.pl p).set_bx (pb p) := rfl
  refine ri_iload_n h d_Fl_layPlace_0 rfl ?_
  refine ri_aload_n h d_Fl_layPlace_1 rfl ?_
  refine ri_get h d_Fl_layPlace_2 fl_Fl_86 (hS.pl_of hp h_pl) (v := .int (nI (Q.pl p).turn)) rfl ?_
  refine ri_cSNv_2 h d_Fl_layPlace_5 cs_Fl_89 (k_both h0 ht g3) (by first | (dsimp only [rk]; omega) | omega | exact Nat.le_of_ble_eq_true rfl) (by first | (dsimp only [rk]; omega) | omega | exact Nat.le_of_ble_eq_true rfl) (by first | (dsimp only [rk]; omega) | omega | exact Nat.le_of_ble_eq_true rfl) (by first | (dsimp only [rk]; omega) | omega | exact Nat.le_of_ble_eq_true rfl) (by first | (dsimp only [rk]; omega) | omega | exact Nat.le_of_ble_eq_true rfl) ?_
  refine ri_istore h d_Fl_layPlace_8 (by first | (dsimp only [rk]; omega) | omega | exact Nat.le_of_ble_eq_true rfl) ?_
  refine ri_iconstN h 0 d_Fl_layPlace_10 rfl ?_
  refine ri_istore h d_Fl_layPlace_11 (by first | (dsimp only [rk]; omega) | omega | exact Nat.le_of_ble_eq_true rfl) ?_
  exact ri_ls [(0, .ref (ad 3 j)), (1, .ref (ad 24 p)), (2, .int (nI t.1)), (3, .long t.2.1), (5, .long t.2.2), (7, .int (nI d)), (8, .int (nI (bth t.1 (Q.pl p).turn))), (9, .int (nI 0))] ⟨rfl, rfl, rfl, rfl, rfl, rfl, rfl, rfl, trivial⟩ (LR (Q.pl p).rows 0 (by omega) M r0 ts0 hS hc ⟨rfl, rfl, rfl, rfl, rfl, hsh⟩ rfl)
theorem k_layCell (h0 : g_0 l D s0) (hW : WB Q) (hL : WL Q) (hX : WX Q) (hC : WSC Q) (hj : j < 3) (hsz : ∀ x, x < Q.nC → sz x = min (SZ Q (-1) x) 3001) : ∀ (n c d : Nat) (t : Tm) (r : FlR) (ts : List It) (M : gH), c < Q.nC → rho Q c < n → d + rho Q c ≤ 20 → t.1 < 8 → HS z ad (lq Q m sz b pb j r) N M → cLs Q r ts → r.layer = lay → (∀ i s, r.sh i = some s → s < Q.nS) → (ts ++ FLn Q lay n c t).length ≤ 3000 → Ct l D s0 y_Fl_layCell (Cond.code y_Fl_layCell b_Fl_layCell 10 none) (rk (2 * n + 8) 0 0) [.ref (ad 3 j), .ref (ad 12 c), .int (nI t.1), .long t.2.1, .long t.2.2, .int (nI d)] M (fS none (clP z ad Q N m sz b pb j r (ts ++ FLn Q lay n c t))) := by
  intro n
  induction n with
  | zero => intro c d t r ts M hc hr; exact absurd hr (Nat.not_lt_zero _)
  | succ n ih =>
    intro c d t r0 ts0 M hc hr hd ht hS hcl hl hsh hlen
    have hWc := hW.2.2.2 c hc
    have hFe : FLn Q lay (n + 1) c t = ownL Q lay c t ++ subF Q lay n t (posF Q c 0) := rfl
    rw [hFe] at hlen ⊢
    refine Ct.of h0 (by decide +kernel) rfl fun X hX h => ?_
    obtain ⟨p_, l', e_, R_, s_, m_, ar_, be_, me_, c_⟩ := X
    obtain rfl : l' = l := hX
    have hposps : posF Q c 0 = ((Q.ce c).ps.filter (fun p => decide (SZ Q (-1) (Q.pl p).of ≠ 0))).flatMap (fun p => rowsF (Q.pl p) p 0) := by
      unfold posF
      rw [(hL.1 c hc).2, List.filter_filter, List.range_eq_range', Nat.sub_zero]
      refine congrArg (fun f => List.flatMap _ f) (List.filter_congr (fun p _ => ?_))
      unfold nzP
      rw [Bool.and_comm]
    have L2 : ∀ (q i : Nat), i + q = (Q.ce c).ps.length → ∀ (M : gH) (r : FlR) (ts : List It), HS z ad (lq Q m sz b pb j r) N M → cLs Q r ts → fkp Q.nS r0 r → ts ++ ((((Q.ce c).ps.drop i).filter (fun p => decide (SZ Q (-1) (Q.pl p).of ≠ 0))).flatMap (fun p => rowsF (Q.pl p) p 0)).flatMap (fun x => FLn Q lay n (Q.pl x.1).of (nxt t (Q.pl x.1) x.2.1 x.2.2)) = ts0 ++ (ownL Q lay c t ++ subF Q lay n t (posF Q c 0)) → G (gzz D s0 (p_, l', e_, R_, s_, m_, ar_, be_, me_, c_) (rk (2 * (n + 1) + 8) 0 0) (fS none (clP z ad Q N m sz b pb j r0 (ts0 ++ (ownL Q lay c t ++ subF Q lay n t (posF Q c 0))))) 10) 68 [(0, .ref (ad 3 j)), (1, .ref (ad 12 c)), (2, .int (nI t.1)), (3, .long t.2.1), (5, .long t.2.2), (7, .int (nI d)), (8, .int (nI i))] [] M 0 0 := by
      intro q
      induction q with
      | zero =>
        intro i hi M r ts hS hcl hk he
        rw [List.drop_of_length_le (by omega)] at he
        have he : ts = ts0 ++ (ownL Q lay c t ++ subF Q lay n t (posF Q c 0)) := by simpa using he
        subst he
        refine ri_iload h d_Fl_layCell_68 rfl ?_
        refine ri_aload_n h d_Fl_layCell_70 rfl ?_
        refine ri_get h d_Fl_layCell_71 fl_Fl_71 (by first | assumption | exact hS.ce_of (by first | assumption | omega) (by assumption) | exact hS.ce (by first | assumption | omega) | exact gup_s) (by rfl) ?_
        refine ri_cVv_0 (r := (gR7, gT7, 3)) h d_Fl_layCell_74 cv_Fl_53 (by first | exact hS.lcO | exact hS.lsO | exact hS.lpO | exact hS.cesO (by first | assumption | omega) | exact hS.cepO (by first | assumption | omega) | exact ⟨_, (by first | assumption | exact hS.st | exact hS.mo | exact hS.out | exact hS.sb | exact hS.ce (by first | assumption | omega) | exact hS.ceb (by first | assumption | omega) | exact hS.sh (by first | assumption | omega) | exact hS.shb (by first | assumption | omega) | exact hS.pl (by first | assumption | omega) | exact hS.plb (by first | assumption | omega) | exact hS.fl (by first | assumption | omega) | exact gup_s | (refine gup_t (by assumption) ?_; first | assumption | exact gup_s | (refine gup_t (by assumption) ?_; first | assumption | exact gup_s | (refine gup_t (by assumption) ?_; first | assumption | exact gup_s))))⟩) rfl (k_size_cepE h0 hS hc (ps := (Q.ce c).ps) rfl) (by first | (dsimp only [rk]; omega) | omega | exact Nat.le_of_ble_eq_true rfl) (by first | (dsimp only [rk]; omega) | omega | exact Nat.le_of_ble_eq_true rfl) (by first | (dsimp only [rk]; omega) | omega | exact Nat.le_of_ble_eq_true rfl) (by first | (dsimp only [rk]; omega) | omega | exact Nat.le_of_ble_eq_true rfl) (by first | (dsimp only [rk]; omega) | omega | exact Nat.le_of_ble_eq_true rfl) ?_
        first | refine ri_icmpN_ge h 123 d_Fl_layCell_77 (by decide) (by omega) (by omega) (fun c_77 => ?_) (fun c_77 => ?_) | refine ri_icmp_ge h 123 d_Fl_layCell_77 (by decide) (fun c_77 => ?_) (fun c_77 => ?_)
        · first
          | (exfalso; first | exact absurd c_77 (by decide) | omega)
          | (refine ri_return h d_Fl_layCell_123 (by first | (dsimp only [rk]; omega) | omega | exact Nat.le_of_ble_eq_true rfl) (by first | (dsimp only [rk]; omega) | omega | exact Nat.le_of_ble_eq_true rfl) ?_
             exact ⟨rfl, r, hS, hcl, hk⟩)
        · first
          | (exfalso; first | exact absurd c_77 (by decide) | omega)
          | (omega)
      | succ q ihq =>
        intro i hi M r ts hS hcl hk he
        have hil : i < (Q.ce c).ps.length := by omega
        have hpm : (Q.ce c).ps[i] ∈ (Q.ce c).ps := List.getElem_mem hil
        obtain ⟨hpP, hof, hrl⟩ := hL.mem hc hpm
        have hrof := rho_pos hof
        rw [List.drop_eq_getElem_cons hil] at he
        have hce : (lq Q m sz b pb j r).ce (Q.pl (Q.ce c).ps[i]).of = (((Q.ce (Q.pl (Q.ce c).ps[i]).of).set_meas (m (Q.pl (Q.ce c).ps[i]).of)).set_size (sz (Q.pl (Q.ce c).ps[i]).of)).set_bx (b (Q.pl (Q.ce c).ps[i]).of) := rfl
        have h_pl : (lq Q m sz b pb j r).pl (Q.ce c).ps[i] = (Q.pl (Q.ce c).ps[i]).set_bx (pb (Q.ce c).ps[i]) := rfl
        have hszo := hsz _ hof
        refine ri_iload h d_Fl_layCell_68 rfl ?_
        refine ri_aload_n h d_Fl_layCell_70 rfl ?_
        refine ri_get h d_Fl_layCell_71 fl_Fl_71 (by first | assumption | exact hS.ce_of (by first | assumption | omega) (by assumption) | exact hS.ce (by first | assumption | omega) | exact gup_s) (by rfl) ?_
        refine ri_cVv_0 (r := (gR7, gT7, 3)) h d_Fl_layCell_74 cv_Fl_53 (by first | exact hS.lcO | exact hS.lsO | exact hS.lpO | exact hS.cesO (by first | assumption | omega) | exact hS.cepO (by first | assumption | omega) | exact ⟨_, (by first | assumption | exact hS.st | exact hS.mo | exact hS.out | exact hS.sb | exact hS.ce (by first | assumption | omega) | exact hS.ceb (by first | assumption | omega) | exact hS.sh (by first | assumption | omega) | exact hS.shb (by first | assumption | omega) | exact hS.pl (by first | assumption | omega) | exact hS.plb (by first | assumption | omega) | exact hS.fl (by first | assumption | omega) | exact gup_s | (refine gup_t (by assumption) ?_; first | assumption | exact gup_s | (refine gup_t (by assumption) ?_; first | assumption | exact gup_s | (refine gup_t (by assumption) ?_; first | assumption | exact gup_s))))⟩) rfl (k_size_cepE h0 hS hc (ps := (Q.ce c).ps) rfl) (by first | (dsimp only [rk]; omega) | omega | exact Nat.le_of_ble_eq_true rfl) (by first | (dsimp only [rk]; omega) | omega | exact Nat.le_of_ble_eq_true rfl) (by first | (dsimp only [rk]; omega) | omega | exact Nat.le_of_ble_eq_true rfl) (by first | (dsimp only [rk]; omega) | omega | exact Nat.le_of_ble_eq_true rfl) (by first | (dsimp only [rk]; omega) | omega | exact Nat.le_of_ble_eq_true rfl) ?_
        first | refine ri_icmpN_ge h 123 d_Fl_layCell_77 (by decide) (by omega) (by omega) (fun c_77 => ?_) (fun c_77 => ?_) | refine ri_icmp_ge h 123 d_Fl_layCell_77 (by decide) (fun c_77 => ?_) (fun c_77 => ?_)
        · omega
        · refine ri_aload_n h d_Fl_layCell_80 rfl ?_
          refine ri_get h d_Fl_layCell_81 fl_Fl_71 (by first | assumption | exact hS.ce_of (by first | assumption | omega) (by assumption) | exact hS.ce (by first | assumption | omega) | exact gup_s) (by rfl) ?_
          refine ri_iload h d_Fl_layCell_84 rfl ?_
          refine ri_cVv_1 (r := (gR7, gT7, 3)) h d_Fl_layCell_86 cv_Fl_59 (by first | exact hS.lcO | exact hS.lsO | exact hS.lpO | exact hS.cesO (by first | assumption | omega) | exact hS.cepO (by first | assumption | omega) | exact ⟨_, (by first | assumption | exact hS.st | exact hS.mo | exact hS.out | exact hS.sb | exact hS.ce (by first | assumption | omega) | exact hS.ceb (by first | assumption | omega) | exact hS.sh (by first | assumption | omega) | exact hS.shb (by first | assumption | omega) | exact hS.pl (by first | assumption | omega) | exact hS.plb (by first | assumption | omega) | exact hS.fl (by first | assumption | omega) | exact gup_s | (refine gup_t (by assumption) ?_; first | assumption | exact gup_s | (refine gup_t (by assumption) ?_; first | assumption | exact gup_s | (refine gup_t (by assumption) ?_; first | assumption | exact gup_s))))⟩) rfl (k_get_cep h0 hS hW hc hil) (by first | (dsimp only [rk]; omega) | omega | exact Nat.le_of_ble_eq_true rfl) (by first | (dsimp only [rk]; omega) | omega | exact Nat.le_of_ble_eq_true rfl) (by first | (dsimp only [rk]; omega) | omega | exact Nat.le_of_ble_eq_true rfl) (by first | (dsimp only [rk]; omega) | omega | exact Nat.le_of_ble_eq_true rfl) (by first | (dsimp only [rk]; omega) | omega | exact Nat.le_of_ble_eq_true rfl) ?_
          refine ri_cast (r := (gR3, gT3, 9)) h d_Fl_layCell_89 (by first | assumption | exact hS.st | exact hS.mo | exact hS.out | exact hS.sb | exact hS.ce (by first | assumption | omega) | exact hS.ceb (by first | assumption | omega) | exact hS.sh (by first | assumption | omega) | exact hS.shb (by first | assumption | omega) | exact hS.pl (by first | assumption | omega) | exact hS.plb (by first | assumption | omega) | exact hS.fl (by first | assumption | omega) | exact gup_s | (refine gup_t (by assumption) ?_; first | assumption | exact gup_s | (refine gup_t (by assumption) ?_; first | assumption | exact gup_s | (refine gup_t (by assumption) ?_; first | assumption | exact gup_s)))) rfl (by decide +kernel) (by decide +kernel) ?_
          refine ri_astore h d_Fl_layCell_92 (by first | (dsimp only [rk]; omega) | omega | exact Nat.le_of_ble_eq_true rfl) ?_
          refine ri_aload h d_Fl_layCell_94 rfl ?_
          refine ri_get h d_Fl_layCell_96 fl_Fl_76 (hS.pl_of hpP h_pl) rfl ?_
          refine ri_get h d_Fl_layCell_99 fl_Fl_80 (hS.ce_of hof hce) (v := .int (nI (sz (Q.pl (Q.ce c).ps[i]).of))) rfl ?_
          refine ri_ifN_le h 117 d_Fl_layCell_102 (by decide) (by omega) (fun c_102 => ?_) (fun c_102 => ?_)
          · rw [List.filter_cons_of_neg (by have : SZ Q (-1) (Q.pl (Q.ce c).ps[i]).of = 0 := by omega
                                            simpa using this)] at he
            first | refine ri_iincN h d_Fl_layCell_117 rfl (by first | (dsimp only [rk]; omega) | omega | exact Nat.le_of_ble_eq_true rfl) ?_ | refine ri_iinc h _ d_Fl_layCell_117 rfl rfl (by first | (dsimp only [rk]; omega) | omega | exact Nat.le_of_ble_eq_true rfl) ?_
            refine ri_goto h 68 d_Fl_layCell_120 (by decide) ?_
            exact ri_ls [(0, .ref (ad 3 j)), (1, .ref (ad 12 c)), (2, .int (nI t.1)), (3, .long t.2.1), (5, .long t.2.2), (7, .int (nI d)), (8, .int (nI (i + 1)))] ⟨rfl, rfl, rfl, rfl, rfl, rfl, rfl, trivial⟩ (ihq (i + 1) (by omega) M r ts hS hcl hk he)
          · have hnz : SZ Q (-1) (Q.pl (Q.ce c).ps[i]).of ≠ 0 := by omega
            rw [List.filter_cons_of_pos (by simpa using hnz), List.flatMap_cons, List.flatMap_append, ← List.append_assoc] at he
            have hln2 := hlen
            rw [← he, List.length_append] at hln2
            refine ri_aload_n h d_Fl_layCell_105 rfl ?_
            refine ri_aload h d_Fl_layCell_106 rfl ?_
            refine ri_iload_n h d_Fl_layCell_108 rfl ?_
            refine ri_lload_n h d_Fl_layCell_109 rfl ?_
            refine ri_lload h d_Fl_layCell_110 rfl ?_
            refine ri_iload h d_Fl_layCell_112 rfl ?_
            refine ri_dV0_5 (r := (gR2, gT2, 11)) h d_Fl_layCell_114 cv_Fl_82 ⟨_, hS.fl_of hj va_up_s⟩ rfl (k_layPlace h0 hL hj hpP (show d + 1 ≤ 20 by omega) ht (fun t' r ts M ht' hS hcl hl hsh hln => ih _ (d + 1) t' r ts M hof (by omega) (by omega) ht' hS hcl hl hsh hln) r ts M hS hcl (hk.1.trans hl) hk.2.2.2.2.2 (Nat.le_trans (Nat.le_add_right _ _) hln2)) (Nat.le_of_ble_eq_true rfl) (by dsimp only [rk]; omega) (by dsimp only [rk]; omega) (by dsimp only [rk]; omega) (by dsimp only [rk]; omega) (fun M hS => ?_)
            obtain ⟨r2, hS, hc2, hk2⟩ := hS
            first | refine ri_iincN h d_Fl_layCell_117 rfl (by first | (dsimp only [rk]; omega) | omega | exact Nat.le_of_ble_eq_true rfl) ?_ | refine ri_iinc h _ d_Fl_layCell_117 rfl rfl (by first | (dsimp only [rk]; omega) | omega | exact Nat.le_of_ble_eq_true rfl) ?_
            refine ri_goto h 68 d_Fl_layCell_120 (by decide) ?_
            exact ri_ls [(0, .ref (ad 3 j)), (1, .ref (ad 12 c)), (2, .int (nI t.1)), (3, .long t.2.1), (5, .long t.2.2), (7, .int (nI d)), (8, .int (nI (i + 1)))] ⟨rfl, rfl, rfl, rfl, rfl, rfl, rfl, trivial⟩ (ihq (i + 1) (by omega) M r2 _ hS hc2 (hk.trans hk2) he)
    have L1 : ∀ (q i : Nat), i + q = (Q.ce c).ss.length → ∀ (M : gH) (r : FlR) (ts : List It), HS z ad (lq Q m sz b pb j r) N M → cLs Q r ts → fkp Q.nS r0 r → ts ++ (((Q.ce c).ss.drop i).filter (fun s => onB (Q.sh s) lay)).map (fun s => (s, t)) = ts0 ++ ownL Q lay c t → G (gzz D s0 (p_, l', e_, R_, s_, m_, ar_, be_, me_, c_) (rk (2 * (n + 1) + 8) 0 0) (fS none (clP z ad Q N m sz b pb j r0 (ts0 ++ (ownL Q lay c t ++ subF Q lay n t (posF Q c 0))))) 10) 11 [(0, .ref (ad 3 j)), (1, .ref (ad 12 c)), (2, .int (nI t.1)), (3, .long t.2.1), (5, .long t.2.2), (7, .int (nI d)), (8, .int (nI i))] [] M 0 0 := by
      intro q
      induction q with
      | zero =>
        intro i hi M r ts hS hcl hk he
        rw [List.drop_of_length_le (by omega)] at he
        have he : ts = ts0 ++ ownL Q lay c t := by simpa using he
        refine ri_iload h d_Fl_layCell_11 rfl ?_
        refine ri_aload_n h d_Fl_layCell_13 rfl ?_
        refine ri_get h d_Fl_layCell_14 fl_Fl_48 (by first | assumption | exact hS.ce_of (by first | assumption | omega) (by assumption) | exact hS.ce (by first | assumption | omega) | exact gup_s) (by rfl) ?_
        refine ri_cVv_0 (r := (gR7, gT7, 3)) h d_Fl_layCell_17 cv_Fl_53 (by first | exact hS.lcO | exact hS.lsO | exact hS.lpO | exact hS.cesO (by first | assumption | omega) | exact hS.cepO (by first | assumption | omega) | exact ⟨_, (by first | assumption | exact hS.st | exact hS.mo | exact hS.out | exact hS.sb | exact hS.ce (by first | assumption | omega) | exact hS.ceb (by first | assumption | omega) | exact hS.sh (by first | assumption | omega) | exact hS.shb (by first | assumption | omega) | exact hS.pl (by first | assumption | omega) | exact hS.plb (by first | assumption | omega) | exact hS.fl (by first | assumption | omega) | exact gup_s | (refine gup_t (by assumption) ?_; first | assumption | exact gup_s | (refine gup_t (by assumption) ?_; first | assumption | exact gup_s | (refine gup_t (by assumption) ?_; first | assumption | exact gup_s))))⟩) rfl (k_size_cesE h0 hS hc (ss := (Q.ce c).ss) rfl) (by first | (dsimp only [rk]; omega) | omega | exact Nat.le_of_ble_eq_true rfl) (by first | (dsimp only [rk]; omega) | omega | exact Nat.le_of_ble_eq_true rfl) (by first | (dsimp only [rk]; omega) | omega | exact Nat.le_of_ble_eq_true rfl) (by first | (dsimp only [rk]; omega) | omega | exact Nat.le_of_ble_eq_true rfl) (by first | (dsimp only [rk]; omega) | omega | exact Nat.le_of_ble_eq_true rfl) ?_
        first | refine ri_icmpN_ge h 65 d_Fl_layCell_20 (by decide) (by omega) (by omega) (fun c_20 => ?_) (fun c_20 => ?_) | refine ri_icmp_ge h 65 d_Fl_layCell_20 (by decide) (fun c_20 => ?_) (fun c_20 => ?_)
        · first
          | (exfalso; first | exact absurd c_20 (by decide) | omega)
          | (refine ri_iconstN h 0 d_Fl_layCell_65 rfl ?_
             refine ri_istore h d_Fl_layCell_66 (by first | (dsimp only [rk]; omega) | omega | exact Nat.le_of_ble_eq_true rfl) ?_
             exact ri_ls [(0, .ref (ad 3 j)), (1, .ref (ad 12 c)), (2, .int (nI t.1)), (3, .long t.2.1), (5, .long t.2.2), (7, .int (nI d)), (8, .int (nI 0))] ⟨rfl, rfl, rfl, rfl, rfl, rfl, rfl, trivial⟩ (L2 (Q.ce c).ps.length 0 (by omega) M r ts hS hcl hk (by rw [List.drop_zero, ← hposps, he, List.append_assoc])))
        · first
          | (exfalso; first | exact absurd c_20 (by decide) | omega)
          | (omega)
      | succ q ihq =>
        intro i hi M r ts hS hcl hk he
        have hil : i < (Q.ce c).ss.length := by omega
        have hs : (Q.ce c).ss[i] < Q.nS := hWc.2.2.1 _ (List.getElem_mem hil)
        rw [List.drop_eq_getElem_cons hil] at he
        have h_fl : (lq Q m sz b pb j r).fl j = r := va_up_s
        refine ri_iload h d_Fl_layCell_11 rfl ?_
        refine ri_aload_n h d_Fl_layCell_13 rfl ?_
        refine ri_get h d_Fl_layCell_14 fl_Fl_48 (by first | assumption | exact hS.ce_of (by first | assumption | omega) (by assumption) | exact hS.ce (by first | assumption | omega) | exact gup_s) (by rfl) ?_
        refine ri_cVv_0 (r := (gR7, gT7, 3)) h d_Fl_layCell_17 cv_Fl_53 (by first | exact hS.lcO | exact hS.lsO | exact hS.lpO | exact hS.cesO (by first | assumption | omega) | exact hS.cepO (by first | assumption | omega) | exact ⟨_, (by first | assumption | exact hS.st | exact hS.mo | exact hS.out | exact hS.sb | exact hS.ce (by first | assumption | omega) | exact hS.ceb (by first | assumption | omega) | exact hS.sh (by first | assumption | omega) | exact hS.shb (by first | assumption | omega) | exact hS.pl (by first | assumption | omega) | exact hS.plb (by first | assumption | omega) | exact hS.fl (by first | assumption | omega) | exact gup_s | (refine gup_t (by assumption) ?_; first | assumption | exact gup_s | (refine gup_t (by assumption) ?_; first | assumption | exact gup_s | (refine gup_t (by assumption) ?_; first | assumption | exact gup_s))))⟩) rfl (k_size_cesE h0 hS hc (ss := (Q.ce c).ss) rfl) (by first | (dsimp only [rk]; omega) | omega | exact Nat.le_of_ble_eq_true rfl) (by first | (dsimp only [rk]; omega) | omega | exact Nat.le_of_ble_eq_true rfl) (by first | (dsimp only [rk]; omega) | omega | exact Nat.le_of_ble_eq_true rfl) (by first | (dsimp only [rk]; omega) | omega | exact Nat.le_of_ble_eq_true rfl) (by first | (dsimp only [rk]; omega) | omega | exact Nat.le_of_ble_eq_true rfl) ?_
        first | refine ri_icmpN_ge h 65 d_Fl_layCell_20 (by decide) (by omega) (by omega) (fun c_20 => ?_) (fun c_20 => ?_) | refine ri_icmp_ge h 65 d_Fl_layCell_20 (by decide) (fun c_20 => ?_) (fun c_20 => ?_)
        · omega
        · refine ri_aload_n h d_Fl_layCell_23 rfl ?_
          refine ri_get h d_Fl_layCell_24 fl_Fl_48 (by first | assumption | exact hS.ce_of (by first | assumption | omega) (by assumption) | exact hS.ce (by first | assumption | omega) | exact gup_s) (by rfl) ?_
          refine ri_iload h d_Fl_layCell_27 rfl ?_
          refine ri_cVv_1 (r := (gR7, gT7, 3)) h d_Fl_layCell_29 cv_Fl_59 (by first | exact hS.lcO | exact hS.lsO | exact hS.lpO | exact hS.cesO (by first | assumption | omega) | exact hS.cepO (by first | assumption | omega) | exact ⟨_, (by first | assumption | exact hS.st | exact hS.mo | exact hS.out | exact hS.sb | exact hS.ce (by first | assumption | omega) | exact hS.ceb (by first | assumption | omega) | exact hS.sh (by first | assumption | omega) | exact hS.shb (by first | assumption | omega) | exact hS.pl (by first | assumption | omega) | exact hS.plb (by first | assumption | omega) | exact hS.fl (by first | assumption | omega) | exact gup_s | (refine gup_t (by assumption) ?_; first | assumption | exact gup_s | (refine gup_t (by assumption) ?_; first | assumption | exact gup_s | (refine gup_t (by assumption) ?_; first | assumption | exact gup_s))))⟩) rfl (k_get_ces h0 hS hW hc hil) (by first | (dsimp only [rk]; omega) | omega | exact Nat.le_of_ble_eq_true rfl) (by first | (dsimp only [rk]; omega) | omega | exact Nat.le_of_ble_eq_true rfl) (by first | (dsimp only [rk]; omega) | omega | exact Nat.le_of_ble_eq_true rfl) (by first | (dsimp only [rk]; omega) | omega | exact Nat.le_of_ble_eq_true rfl) (by first | (dsimp only [rk]; omega) | omega | exact Nat.le_of_ble_eq_true rfl) ?_
          refine ri_cast (r := (gR4, gT4, 10)) h d_Fl_layCell_32 (by first | assumption | exact hS.st | exact hS.mo | exact hS.out | exact hS.sb | exact hS.ce (by first | assumption | omega) | exact hS.ceb (by first | assumption | omega) | exact hS.sh (by first | assumption | omega) | exact hS.shb (by first | assumption | omega) | exact hS.pl (by first | assumption | omega) | exact hS.plb (by first | assumption | omega) | exact hS.fl (by first | assumption | omega) | exact gup_s | (refine gup_t (by assumption) ?_; first | assumption | exact gup_s | (refine gup_t (by assumption) ?_; first | assumption | exact gup_s | (refine gup_t (by assumption) ?_; first | assumption | exact gup_s)))) rfl (by decide +kernel) (by decide +kernel) ?_
          refine ri_astore h d_Fl_layCell_35 (by first | (dsimp only [rk]; omega) | omega | exact Nat.le_of_ble_eq_true rfl) ?_
          refine ri_aload h d_Fl_layCell_37 rfl ?_
          refine ri_aload_n h d_Fl_layCell_39 rfl ?_
          refine ri_get h d_Fl_layCell_40 fl_Fl_41 (hS.fl_of hj h_fl) (v := .int lay) (congrArg (fun x => some (Value.int x)) (hk.1.trans hl)) ?_
          refine ri_cVv_1 (r := (gR4, gT4, 10)) h d_Fl_layCell_43 cv_Fl_63 (by first | exact hS.lcO | exact hS.lsO | exact hS.lpO | exact hS.cesO (by first | assumption | omega) | exact hS.cepO (by first | assumption | omega) | exact ⟨_, (by first | assumption | exact hS.st | exact hS.mo | exact hS.out | exact hS.sb | exact hS.ce (by first | assumption | omega) | exact hS.ceb (by first | assumption | omega) | exact hS.sh (by first | assumption | omega) | exact hS.shb (by first | assumption | omega) | exact hS.pl (by first | assumption | omega) | exact hS.plb (by first | assumption | omega) | exact hS.fl (by first | assumption | omega) | exact gup_s | (refine gup_t (by assumption) ?_; first | assumption | exact gup_s | (refine gup_t (by assumption) ?_; first | assumption | exact gup_s | (refine gup_t (by assumption) ?_; first | assumption | exact gup_s))))⟩) rfl (k_isOn h0 (hS.sh hs) lay) (by first | (dsimp only [rk]; omega) | omega | exact Nat.le_of_ble_eq_true rfl) (by first | (dsimp only [rk]; omega) | omega | exact Nat.le_of_ble_eq_true rfl) (by first | (dsimp only [rk]; omega) | omega | exact Nat.le_of_ble_eq_true rfl) (by first | (dsimp only [rk]; omega) | omega | exact Nat.le_of_ble_eq_true rfl) (by first | (dsimp only [rk]; omega) | omega | exact Nat.le_of_ble_eq_true rfl) ?_
          refine ri_if_eq h 59 d_Fl_layCell_46 (by decide) (fun c_46 => ?_) (fun c_46 => ?_)
          · rw [List.filter_cons_of_neg (by rw [show onB (Q.sh (Q.ce c).ss[i]) lay = false from onB_f c_46]; decide)] at he
            first | refine ri_iincN h d_Fl_layCell_59 rfl (by first | (dsimp only [rk]; omega) | omega | exact Nat.le_of_ble_eq_true rfl) ?_ | refine ri_iinc h _ d_Fl_layCell_59 rfl rfl (by first | (dsimp only [rk]; omega) | omega | exact Nat.le_of_ble_eq_true rfl) ?_
            refine ri_goto h 11 d_Fl_layCell_62 (by decide) ?_
            exact ri_ls [(0, .ref (ad 3 j)), (1, .ref (ad 12 c)), (2, .int (nI t.1)), (3, .long t.2.1), (5, .long t.2.2), (7, .int (nI d)), (8, .int (nI (i + 1)))] ⟨rfl, rfl, rfl, rfl, rfl, rfl, rfl, trivial⟩ (ihq (i + 1) (by omega) M r ts hS hcl hk he)
          · have hon : onB (Q.sh (Q.ce c).ss[i]) lay = true := onB_t c_46
            rw [List.filter_cons_of_pos (p := fun s => onB (Q.sh s) lay) (a := (Q.ce c).ss[i]) hon, List.map_cons] at he
            have hln2 := hlen
            rw [← List.append_assoc, ← he, List.length_append, List.length_append, List.length_cons] at hln2
            refine ri_aload_n h d_Fl_layCell_49 rfl ?_
            refine ri_aload h d_Fl_layCell_50 rfl ?_
            refine ri_iload_n h d_Fl_layCell_52 rfl ?_
            refine ri_lload_n h d_Fl_layCell_53 rfl ?_
            refine ri_lload h d_Fl_layCell_54 rfl ?_
            refine ri_dV0_4 (r := (gR2, gT2, 11)) h d_Fl_layCell_56 cv_Fl_67 ⟨_, hS.fl_of hj va_up_s⟩ rfl (k_fadd h0 hS hj h_fl (by rw [hcl.1]; omega) hs) (Nat.le_of_ble_eq_true rfl) (by dsimp only [rk]; omega) (by dsimp only [rk]; omega) (by dsimp only [rk]; omega) (by dsimp only [rk]; omega) (fun M hS => ?_)
            first | refine ri_iincN h d_Fl_layCell_59 rfl (by first | (dsimp only [rk]; omega) | omega | exact Nat.le_of_ble_eq_true rfl) ?_ | refine ri_iinc h _ d_Fl_layCell_59 rfl rfl (by first | (dsimp only [rk]; omega) | omega | exact Nat.le_of_ble_eq_true rfl) ?_
            refine ri_goto h 11 d_Fl_layCell_62 (by decide) ?_
            exact ri_ls [(0, .ref (ad 3 j)), (1, .ref (ad 12 c)), (2, .int (nI t.1)), (3, .long t.2.1), (5, .long t.2.2), (7, .int (nI d)), (8, .int (nI (i + 1)))] ⟨rfl, rfl, rfl, rfl, rfl, rfl, rfl, trivial⟩ (ihq (i + 1) (by omega) M _ (ts ++ [((Q.ce c).ss[i], t)]) hS.fl2 (cLs_add hcl) (hk.trans (fkp_add hs hk.2.2.2.2.2)) (by rw [List.append_assoc]; exact he))
    refine ri_iload h d_Fl_layCell_0 rfl ?_
    refine ri_bipushN h 20 d_Fl_layCell_2 rfl ?_
    first | refine ri_icmpN_le h 8 d_Fl_layCell_4 (by decide) (by omega) (by omega) (fun c_4 => ?_) (fun c_4 => ?_) | refine ri_icmp_le h 8 d_Fl_layCell_4 (by decide) (fun c_4 => ?_) (fun c_4 => ?_)
    · refine ri_iconstN h 0 d_Fl_layCell_8 rfl ?_
      refine ri_istore h d_Fl_layCell_9 (by first | (dsimp only [rk]; omega) | omega | exact Nat.le_of_ble_eq_true rfl) ?_
      exact ri_ls [(0, .ref (ad 3 j)), (1, .ref (ad 12 c)), (2, .int (nI t.1)), (3, .long t.2.1), (5, .long t.2.2), (7, .int (nI d)), (8, .int (nI 0))] ⟨rfl, rfl, rfl, rfl, rfl, rfl, rfl, trivial⟩ (L1 (Q.ce c).ss.length 0 (by omega) M r0 ts0 hS hcl ⟨rfl, rfl, rfl, rfl, rfl, hsh⟩ rfl)
    · omega
theorem k_lay (h0 : g_0 l D s0) (hW : WB Q) (hL : WL Q) (hX : WX Q) (hC : WSC Q) (hj : j < 3) (hsz : ∀ x, x < Q.nC → sz x = min (SZ Q (-1) x) 3001) (hT : ∀ i s, (Q.fl j).sh i = some s → s < Q.nS) {c : Nat} (hc : c < Q.nC) (hS : HS z ad (msQ Q m sz b pb) N M) (hlen : (FLn Q lay 21 c (0, 0, 0)).length ≤ 3000) : Ct l D s0 y_Fl_lay (Cond.code y_Fl_lay b_Fl_lay 3 none) (rk 60 0 0) [.ref (ad 3 j), .ref (ad 12 c), .int lay] M (fS none (clP z ad Q N m sz b pb j ((Q.fl j).set_layer lay) (FLn Q lay 21 c (0, 0, 0)))) := by
  have hr := rho_lt (c := c) hW
  have h_fl : (msQ Q m sz b pb).fl j = Q.fl j := rfl
  refine Ct.of h0 (by decide +kernel) rfl fun X hX h => ?_
  obtain ⟨p_, l', e_, R_, s_, m_, ar_, be_, me_, c_⟩ := X
  obtain rfl : l' = l := hX
  refine ri_aload_n h d_Fl_lay_0 rfl ?_
  refine ri_iconstN h 0 d_Fl_lay_1 rfl ?_
  refine ri_p_fcnt h d_Fl_lay_2 fl_Fl_37 hS (by first | assumption | omega) (by first | assumption | rfl) (fun M hS h_fl => ?_)
  refine ri_aload_n h d_Fl_lay_5 rfl ?_
  refine ri_iload_n h d_Fl_lay_6 rfl ?_
  refine ri_p_flay h d_Fl_lay_7 fl_Fl_41 hS (by first | assumption | omega) (by first | assumption | rfl) (fun M hS h_fl => ?_)
  refine ri_aload_n h d_Fl_lay_10 rfl ?_
  refine ri_aload_n h d_Fl_lay_11 rfl ?_
  refine ri_iconstN h 0 d_Fl_lay_12 rfl ?_
  refine ri_lconst h 0 d_Fl_lay_13 rfl ?_
  refine ri_lconst h 0 d_Fl_lay_14 rfl ?_
  refine ri_iconstN h 0 d_Fl_lay_15 rfl ?_
  refine ri_dV0_5 (r := (gR2, gT2, 11)) h d_Fl_lay_16 cv_Fl_44 ⟨_, hS.fl_of hj h_fl⟩ rfl (k_layCell (m := m) (sz := sz) (b := b) (pb := pb) (lay := lay) h0 hW hL hX hC hj hsz 21 c 0 (0, 0, 0) (((Q.fl j).set_cnt 0).set_layer lay) [] M hc hr (by omega) (by decide) hS.fl2 ⟨rfl, fun i hi => absurd hi (Nat.not_lt_zero i)⟩ rfl hT (by simpa using hlen)) (by decide) (by decide) (by decide) (by decide) (by decide) (fun M hS => ?_)
  refine ri_return h d_Fl_lay_19 (Nat.le_of_ble_eq_true rfl) (Nat.le_of_ble_eq_true rfl) ?_
  exact ⟨rfl, hS⟩
end CLA
