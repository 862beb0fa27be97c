/-! The model: add, corner, point, drop, array, at -/
abbrev adN (N : MS) (s n : Nat) (x y : Int64) : MS := ((N.set_l (va_up N.l 9 (va_up (N.l 9) (24 * s + n) x))).set_l (va_up (va_up N.l 9 (va_up (N.l 9) (24 * s + n) x)) 10 (va_up (N.l 10) (24 * s + n) y))).set_i (va_up N.i 7 (va_up (N.i 7) s (nI (n + 1))))
theorem addR_cell {r : ShR} {x y : Int64} : (addR r x y).cell = r.cell := by unfold addR; dsimp only; split <;> rfl
theorem addR_layer {r : ShR} {x y : Int64} : (addR r x y).layer = r.layer := by unfold addR; dsimp only; split <;> rfl
theorem addR_w {r : ShR} {x y : Int64} : (addR r x y).w = r.w := by unfold addR; dsimp only; split <;> rfl
theorem addR_ends {r : ShR} {x y : Int64} : (addR r x y).ends = r.ends := by unfold addR; dsimp only; split <;> rfl
theorem addR_xs {r : ShR} {x y : Int64} : (addR r x y).xs = va_up r.xs r.cnt x := by unfold addR; dsimp only; split <;> rfl
theorem addR_ys {r : ShR} {x y : Int64} : (addR r x y).ys = va_up r.ys r.cnt y := by unfold addR; dsimp only; split <;> rfl
theorem addR_cnt {r : ShR} {x y : Int64} : (addR r x y).cnt = r.cnt + 1 := by unfold addR; dsimp only; split <;> rfl
theorem addR_drop {r : ShR} {x y : Int64} : (addR r x y).drop = r.drop := by unfold addR; dsimp only; split <;> rfl
section ME2
variable {l : Launch} {D : gD} {s0 : State} {M : gH} {z : Nat} {ad : gA} {Q Qc : CS} {N : MS} {c i : Nat}
/-- the hand sees the shapes' corners alone, and only those that were there -/
theorem FX_cong {sh sh' : Nat → ShR} {r : FlR} {i k : Nat} (h1 : (sh' (r.s i)).xs k = (sh (r.s i)).xs k) (h2 : (sh' (r.s i)).ys k = (sh (r.s i)).ys k) : FX sh r i k = FX sh' r i k ∧ FY sh r i k = FY sh' r i k := by
  unfold FX FY
  rw [h1, h2]
  exact ⟨rfl, rfl⟩
theorem MR.add (hm : MR Q N) (hF : WFl Q.nS Q.sh (Q.fl 0)) (k : Nat) {s : Nat} (hs : s < Q.nS) (hc : ∀ t, t < Q.nS → (Q.sh t).cnt ≤ 24) (hcs : (Q.sh s).cnt < 24) (x y : Int64) : MR (Q.set_sh (va_up Q.sh s (addR (Q.sh s) x y))) (adN (N.set_code k) s (Q.sh s).cnt x y) := by
  refine ⟨hm.la, hm.nc, hm.ns, hm.np, ?_, hm.2.2.2.2.2.1, hm.2.2.2.2.2.2.1, hm.ha, ?_⟩
  · intro t ht
    have ht : t < Q.nS := ht
    show N.i 3 t = nI (va_up Q.sh s (addR (Q.sh s) x y) t).cell ∧ N.i 4 t = (va_up Q.sh s (addR (Q.sh s) x y) t).layer ∧ N.l 5 t = (va_up Q.sh s (addR (Q.sh s) x y) t).w ∧ N.i 6 t = (va_up Q.sh s (addR (Q.sh s) x y) t).ends ∧ va_up (N.i 7) s (nI ((Q.sh s).cnt + 1)) t = nI (va_up Q.sh s (addR (Q.sh s) x y) t).cnt ∧ N.i 8 t = (va_up Q.sh s (addR (Q.sh s) x y) t).drop ∧ ∀ k, k < (va_up Q.sh s (addR (Q.sh s) x y) t).cnt → va_up (N.l 9) (24 * s + (Q.sh s).cnt) x (24 * t + k) = (va_up Q.sh s (addR (Q.sh s) x y) t).xs k ∧ va_up (N.l 10) (24 * s + (Q.sh s).cnt) y (24 * t + k) = (va_up Q.sh s (addR (Q.sh s) x y) t).ys k
    by_cases q : t = s
    · subst q
      simp only [va_up_s, addR_cell, addR_layer, addR_w, addR_ends, addR_cnt, addR_drop, addR_xs, addR_ys]
      refine ⟨hm.i3 ht, hm.i4 ht, hm.i5 ht, hm.i6 ht, trivial, hm.i8 ht, fun k hk => ?_⟩
      by_cases e : k = (Q.sh t).cnt
      · subst e
        simp only [va_up_s]
        exact ⟨trivial, trivial⟩
      · simp only [va_up_n e, va_up_n (show ¬ 24 * t + k = 24 * t + (Q.sh t).cnt by omega)]
        exact ⟨hm.i9 ht (by omega), hm.i10 ht (by omega)⟩
    · simp only [va_up_n q]
      refine ⟨hm.i3 ht, hm.i4 ht, hm.i5 ht, hm.i6 ht, hm.i7 ht, hm.i8 ht, fun k hk => ?_⟩
      have := hc t ht
      rw [va_up_n (by omega), va_up_n (by omega)]
      exact ⟨hm.i9 ht hk, hm.i10 ht hk⟩
  · intro i hi
    obtain ⟨-, f2, f3, -⟩ := hF.2 i hi
    refine ⟨hm.i25 hi, fun k hk => ?_⟩
    have hk : k < (Q.fl 0).cor i := hk
    have e : (va_up Q.sh s (addR (Q.sh s) x y) ((Q.fl 0).s i)).xs k = (Q.sh ((Q.fl 0).s i)).xs k ∧ (va_up Q.sh s (addR (Q.sh s) x y) ((Q.fl 0).s i)).ys k = (Q.sh ((Q.fl 0).s i)).ys k := by
      by_cases q : (Q.fl 0).s i = s
      · rw [q] at f3 ⊢
        rw [va_up_s, addR_xs, addR_ys, va_up_n (by omega), va_up_n (by omega)]
        exact ⟨rfl, rfl⟩
      · rw [va_up_n q]
        exact ⟨rfl, rfl⟩
    have e2 := FX_cong (r := Q.fl 0) e.1 e.2
    exact ⟨(hm.i22 hi hk).trans e2.1, (hm.i23 hi hk).trans e2.2⟩
theorem k_madd (h0 : g_0 l D s0) (hS : HS z ad Qc N M) {s n : Nat} (hs : s < 120) (hn : n < 24) (h7 : N.i 7 s = nI n) {x y : Int64} : Ct l D s0 y_Md_add (Cond.code y_Md_add b_Md_add 6 none) (rk 1 0 0) [.ref (ad 30 0), .int (nI s), .long x, .long y] M (fM z ad Qc none (fun N' => N' = adN N s n x y)) := by
  refine Ct.of h0 (by decide +kernel) rfl fun X hX h => ?_
  obtain ⟨p_, l', e_, R_, s_, m_, ar_, be_, me_, c_⟩ := X
  obtain rfl : l' = l := hX
  refine ri_aload_n h d_Md_add_0 rfl ?_
  refine ri_get h d_Md_add_1 fl_Md_30 (by first | assumption | exact hS.mo | exact gup_s) (by rfl) ?_
  refine ri_bipushN h 24 d_Md_add_4 rfl ?_
  refine ri_iload_n h d_Md_add_6 rfl ?_
  first | refine ri_imulN h d_Md_add_7 ?_ | refine ri_imul h d_Md_add_7 ?_
  refine ri_aload_n h d_Md_add_8 rfl ?_
  refine ri_get h d_Md_add_9 fl_Md_23 (by first | assumption | exact hS.mo | exact gup_s) (by rfl) ?_
  refine ri_iload_n h d_Md_add_12 rfl ?_
  refine ri_ialdE h _ d_Md_add_13 (by first | assumption | exact hS.a7) (by first | rfl | assumption) (by first | assumption | omega) (by first | decide | omega) (by first | assumption | exact hm.i7 (by first | assumption | omega) | rfl) ?_
  first | refine ri_iaddN h d_Md_add_14 ?_ | refine ri_iadd h d_Md_add_14 ?_
  refine ri_lload_n h d_Md_add_15 rfl ?_
  refine ri_last h _ d_Md_add_16 (by first | assumption | exact hS.a9) (by first | rfl | assumption) (by first | assumption | omega) (by first | decide | omega) ?_
  refine ri_gH (hS.set_ml 9 rfl _) (fun M hS => ?_)
  refine ri_aload_n h d_Md_add_17 rfl ?_
  refine ri_get h d_Md_add_18 fl_Md_33 (by first | assumption | exact hS.mo | exact gup_s) (by rfl) ?_
  refine ri_bipushN h 24 d_Md_add_21 rfl ?_
  refine ri_iload_n h d_Md_add_23 rfl ?_
  first | refine ri_imulN h d_Md_add_24 ?_ | refine ri_imul h d_Md_add_24 ?_
  refine ri_aload_n h d_Md_add_25 rfl ?_
  refine ri_get h d_Md_add_26 fl_Md_23 (by first | assumption | exact hS.mo | exact gup_s) (by rfl) ?_
  refine ri_iload_n h d_Md_add_29 rfl ?_
  refine ri_ialdE h _ d_Md_add_30 (by first | assumption | exact hS.a7) (by first | rfl | assumption) (by first | assumption | omega) (by first | decide | omega) (by first | assumption | exact hm.i7 (by first | assumption | omega) | rfl) ?_
  first | refine ri_iaddN h d_Md_add_31 ?_ | refine ri_iadd h d_Md_add_31 ?_
  refine ri_lload h d_Md_add_32 rfl ?_
  refine ri_last h _ d_Md_add_34 (by first | assumption | exact hS.a10) (by first | rfl | assumption) (by first | assumption | omega) (by first | decide | omega) ?_
  refine ri_gH (hS.set_ml 10 rfl _) (fun M hS => ?_)
  refine ri_aload_n h d_Md_add_35 rfl ?_
  refine ri_get h d_Md_add_36 fl_Md_23 (by first | assumption | exact hS.mo | exact gup_s) (by rfl) ?_
  refine ri_iload_n h d_Md_add_39 rfl ?_
  refine ri_dup2 h d_Md_add_40 rfl rfl ?_
  refine ri_ialdE h _ d_Md_add_41 (by first | assumption | exact hS.a7) (by first | rfl | assumption) (by first | assumption | omega) (by first | decide | omega) (by first | assumption | exact hm.i7 (by first | assumption | omega) | rfl) ?_
  refine ri_iconstN h 1 d_Md_add_42 rfl ?_
  first | refine ri_iaddN h d_Md_add_43 ?_ | refine ri_iadd h d_Md_add_43 ?_
  refine ri_iast h _ d_Md_add_44 (by first | assumption | exact hS.a7) (by first | rfl | assumption) (by first | assumption | omega) (by first | decide | omega) ?_
  refine ri_gH (hS.set_mi 7 rfl _) (fun M hS => ?_)
  refine ri_return h d_Md_add_45 (Nat.le_of_ble_eq_true rfl) (Nat.le_of_ble_eq_true rfl) ?_
  exact ⟨rfl, _, hS, rfl⟩
theorem k_mcorner_no1 (h0 : g_0 l D s0) (hS : HS z ad Qc N M) (hm : MR Q N) (hW : WB Q) {v : Int32} {x y : Int64} (hn : ¬ ∃ s, s < Q.nS ∧ v = nI s ∧ (Q.sh s).drop = 0 ∧ spath (Q.sh s).w = 0) : Ct l D s0 y_Md_corner (Cond.code y_Md_corner b_Md_corner 7 (some .boolean)) rkM [.ref (ad 30 0), .int v, .long x, .long y] M (fM z ad Qc (some (.int 0)) (fun N' => N' = N.set_code 1)) := by
  refine Ct.of h0 (by decide +kernel) rfl fun X hX h => ?_
  obtain ⟨p_, l', e_, R_, s_, m_, ar_, be_, me_, c_⟩ := X
  obtain rfl : l' = l := hX
  refine ri_aload_n h d_Md_corner_0 rfl ?_
  refine ri_aload_n h d_Md_corner_1 rfl ?_
  refine ri_iload_n h d_Md_corner_2 rfl ?_
  refine ri_iconstN h 0 d_Md_corner_3 rfl ?_
  refine ri_lload_n h d_Md_corner_4 rfl ?_
  refine ri_lload h d_Md_corner_5 rfl ?_
  refine ri_cVv_4 (r := (gR6, gT6, 44)) h d_Md_corner_7 cv_Md_140 (by first | exact hS.lcO | exact hS.lsO | exact hS.lpO | exact hS.cesO (by first | assumption | omega) | exact hS.cepO (by first | assumption | omega) | exact ⟨_, (by first | assumption | exact hS.st | exact hS.mo | exact hS.out | exact hS.sb | exact hS.ce (by first | assumption | omega) | exact hS.ceb (by first | assumption | omega) | exact hS.sh (by first | assumption | omega) | exact hS.shb (by first | assumption | omega) | exact hS.pl (by first | assumption | omega) | exact hS.plb (by first | assumption | omega) | exact hS.fl (by first | assumption | omega) | exact gup_s | (refine gup_t (by assumption) ?_; first | assumption | exact gup_s | (refine gup_t (by assumption) ?_; first | assumption | exact gup_s | (refine gup_t (by assumption) ?_; first | assumption | exact gup_s))))⟩) rfl (k_fault0_1 h0 hS hm hW hn) (Nat.le_of_ble_eq_true rfl) (Nat.le_of_ble_eq_true rfl) (Nat.le_of_ble_eq_true rfl) (Nat.le_of_ble_eq_true rfl) (Nat.le_of_ble_eq_true rfl) ?_
  refine ri_pm_code h d_Md_corner_10 fl_Md_108 hS (fun M hS => ?_)
  refine ri_aload_n h d_Md_corner_13 rfl ?_
  refine ri_get h d_Md_corner_14 fl_Md_108 (by first | assumption | exact hS.mo | exact gup_s) (by rfl) ?_
  try dsimp only [MS.code, MS.set_code]
  first | refine ri_ifN_le h 22 d_Md_corner_17 (by decide) (by omega) (fun c_17 => ?_) (fun c_17 => ?_) | refine ri_if_le h 22 d_Md_corner_17 (by decide) (fun c_17 => ?_) (fun c_17 => ?_)
  · first
    | (exfalso; first | exact absurd c_17 (by decide) | omega)
    | (omega)
  · first
    | (exfalso; first | exact absurd c_17 (by decide) | omega)
    | (refine ri_iconstN h 0 d_Md_corner_20 rfl ?_
       refine ri_zreturn h d_Md_corner_21 (Nat.le_of_ble_eq_true rfl) (Nat.le_of_ble_eq_true rfl) (by first | rfl | assumption) ?_
       exact ⟨rfl, _, hS, rfl⟩)
theorem k_mcorner_no2 (h0 : g_0 l D s0) (hS : HS z ad Qc N M) (hm : MR Q N) (hW : WB Q) {s : Nat} (hs : s < Q.nS) (hd : (Q.sh s).drop = 0) (hp : spath (Q.sh s).w = 0) {x y : Int64} (hc : (Q.sh s).cnt = 24) : Ct l D s0 y_Md_corner (Cond.code y_Md_corner b_Md_corner 7 (some .boolean)) rkM [.ref (ad 30 0), .int (nI s), .long x, .long y] M (fM z ad Qc (some (.int 0)) (fun N' => N' = N.set_code 2)) := by
  refine Ct.of h0 (by decide +kernel) rfl fun X hX h => ?_
  obtain ⟨p_, l', e_, R_, s_, m_, ar_, be_, me_, c_⟩ := X
  obtain rfl : l' = l := hX
  refine ri_aload_n h d_Md_corner_0 rfl ?_
  refine ri_aload_n h d_Md_corner_1 rfl ?_
  refine ri_iload_n h d_Md_corner_2 rfl ?_
  refine ri_iconstN h 0 d_Md_corner_3 rfl ?_
  refine ri_lload_n h d_Md_corner_4 rfl ?_
  refine ri_lload h d_Md_corner_5 rfl ?_
  refine ri_cVv_4 (r := (gR6, gT6, 44)) h d_Md_corner_7 cv_Md_140 (by first | exact hS.lcO | exact hS.lsO | exact hS.lpO | exact hS.cesO (by first | assumption | omega) | exact hS.cepO (by first | assumption | omega) | exact ⟨_, (by first | assumption | exact hS.st | exact hS.mo | exact hS.out | exact hS.sb | exact hS.ce (by first | assumption | omega) | exact hS.ceb (by first | assumption | omega) | exact hS.sh (by first | assumption | omega) | exact hS.shb (by first | assumption | omega) | exact hS.pl (by first | assumption | omega) | exact hS.plb (by first | assumption | omega) | exact hS.fl (by first | assumption | omega) | exact gup_s | (refine gup_t (by assumption) ?_; first | assumption | exact gup_s | (refine gup_t (by assumption) ?_; first | assumption | exact gup_s | (refine gup_t (by assumption) ?_; first | assumption | exact gup_s))))⟩) rfl (k_fault0_2 h0 hS hm hW hs hd hp hc) (Nat.le_of_ble_eq_true rfl) (Nat.le_of_ble_eq_true rfl) (Nat.le_of_ble_eq_true rfl) (Nat.le_of_ble_eq_true rfl) (Nat.le_of_ble_eq_true rfl) ?_
  refine ri_pm_code h d_Md_corner_10 fl_Md_108 hS (fun M hS => ?_)
  refine ri_aload_n h d_Md_corner_13 rfl ?_
  refine ri_get h d_Md_corner_14 fl_Md_108 (by first | assumption | exact hS.mo | exact gup_s) (by rfl) ?_
  try dsimp only [MS.code, MS.set_code]
  first | refine ri_ifN_le h 22 d_Md_corner_17 (by decide) (by omega) (fun c_17 => ?_) (fun c_17 => ?_) | refine ri_if_le h 22 d_Md_corner_17 (by decide) (fun c_17 => ?_) (fun c_17 => ?_)
  · first
    | (exfalso; first | exact absurd c_17 (by decide) | omega)
    | (omega)
  · first
    | (exfalso; first | exact absurd c_17 (by decide) | omega)
    | (refine ri_iconstN h 0 d_Md_corner_20 rfl ?_
       refine ri_zreturn h d_Md_corner_21 (Nat.le_of_ble_eq_true rfl) (Nat.le_of_ble_eq_true rfl) (by first | rfl | assumption) ?_
       exact ⟨rfl, _, hS, rfl⟩)
theorem k_mcorner_no3 (h0 : g_0 l D s0) (hS : HS z ad Qc N M) (hm : MR Q N) (hW : WB Q) {s : Nat} (hs : s < Q.nS) (hd : (Q.sh s).drop = 0) (hp : spath (Q.sh s).w = 0) {x y : Int64} (hc : (Q.sh s).cnt < 24) (hn : ¬ (nearB x ∧ nearB y)) : Ct l D s0 y_Md_corner (Cond.code y_Md_corner b_Md_corner 7 (some .boolean)) rkM [.ref (ad 30 0), .int (nI s), .long x, .long y] M (fM z ad Qc (some (.int 0)) (fun N' => N' = N.set_code 3)) := by
  refine Ct.of h0 (by decide +kernel) rfl fun X hX h => ?_
  obtain ⟨p_, l', e_, R_, s_, m_, ar_, be_, me_, c_⟩ := X
  obtain rfl : l' = l := hX
  refine ri_aload_n h d_Md_corner_0 rfl ?_
  refine ri_aload_n h d_Md_corner_1 rfl ?_
  refine ri_iload_n h d_Md_corner_2 rfl ?_
  refine ri_iconstN h 0 d_Md_corner_3 rfl ?_
  refine ri_lload_n h d_Md_corner_4 rfl ?_
  refine ri_lload h d_Md_corner_5 rfl ?_
  refine ri_cVv_4 (r := (gR6, gT6, 44)) h d_Md_corner_7 cv_Md_140 (by first | exact hS.lcO | exact hS.lsO | exact hS.lpO | exact hS.cesO (by first | assumption | omega) | exact hS.cepO (by first | assumption | omega) | exact ⟨_, (by first | assumption | exact hS.st | exact hS.mo | exact hS.out | exact hS.sb | exact hS.ce (by first | assumption | omega) | exact hS.ceb (by first | assumption | omega) | exact hS.sh (by first | assumption | omega) | exact hS.shb (by first | assumption | omega) | exact hS.pl (by first | assumption | omega) | exact hS.plb (by first | assumption | omega) | exact hS.fl (by first | assumption | omega) | exact gup_s | (refine gup_t (by assumption) ?_; first | assumption | exact gup_s | (refine gup_t (by assumption) ?_; first | assumption | exact gup_s | (refine gup_t (by assumption) ?_; first | assumption | exact gup_s))))⟩) rfl (k_fault0_3 h0 hS hm hW hs hd hp hc hn) (Nat.le_of_ble_eq_true rfl) (Nat.le_of_ble_eq_true rfl) (Nat.le_of_ble_eq_true rfl) (Nat.le_of_ble_eq_true rfl) (Nat.le_of_ble_eq_true rfl) ?_
  refine ri_pm_code h d_Md_corner_10 fl_Md_108 hS (fun M hS => ?_)
  refine ri_aload_n h d_Md_corner_13 rfl ?_
  refine ri_get h d_Md_corner_14 fl_Md_108 (by first | assumption | exact hS.mo | exact gup_s) (by rfl) ?_
  try dsimp only [MS.code, MS.set_code]
  first | refine ri_ifN_le h 22 d_Md_corner_17 (by decide) (by omega) (fun c_17 => ?_) (fun c_17 => ?_) | refine ri_if_le h 22 d_Md_corner_17 (by decide) (fun c_17 => ?_) (fun c_17 => ?_)
  · first
    | (exfalso; first | exact absurd c_17 (by decide) | omega)
    | (omega)
  · first
    | (exfalso; first | exact absurd c_17 (by decide) | omega)
    | (refine ri_iconstN h 0 d_Md_corner_20 rfl ?_
       refine ri_zreturn h d_Md_corner_21 (Nat.le_of_ble_eq_true rfl) (Nat.le_of_ble_eq_true rfl) (by first | rfl | assumption) ?_
       exact ⟨rfl, _, hS, rfl⟩)
theorem k_mcorner_ok (h0 : g_0 l D s0) (hS : HS z ad Qc N M) (hm : MR Q N) (hW : WB Q) {s : Nat} (hs : s < Q.nS) (hd : (Q.sh s).drop = 0) (hp : spath (Q.sh s).w = 0) {x y : Int64} (hc : (Q.sh s).cnt < 24) (hx : nearB x) (hy : nearB y) (ht : takesB (Q.sh s) x y) : Ct l D s0 y_Md_corner (Cond.code y_Md_corner b_Md_corner 7 (some .boolean)) rkM [.ref (ad 30 0), .int (nI s), .long x, .long y] M (fM z ad Qc (some (.int 1)) (fun N' => N' = adN (N.set_code 0) s (Q.sh s).cnt x y)) := by
  have hb1 := hW.2.1
  have hw : ¬ 0 < (Q.sh s).w := by
    by_cases q : 0 < (Q.sh s).w
    · exact absurd hp (by simp [spath, q])
    · exact q
  have h9 : ¬ (Q.sh s).cnt = 0 → N.l 9 (24 * s + (Q.sh s).cnt - 1) = (Q.sh s).xs ((Q.sh s).cnt - 1) := fun q => by rw [show 24 * s + (Q.sh s).cnt - 1 = 24 * s + ((Q.sh s).cnt - 1) by omega]; exact hm.i9 hs (by omega)
  have h10 : ¬ (Q.sh s).cnt = 0 → N.l 10 (24 * s + (Q.sh s).cnt - 1) = (Q.sh s).ys ((Q.sh s).cnt - 1) := fun q => by rw [show 24 * s + (Q.sh s).cnt - 1 = 24 * s + ((Q.sh s).cnt - 1) by omega]; exact hm.i10 hs (by omega)
  refine Ct.of h0 (by decide +kernel) rfl fun X hX h => ?_
  obtain ⟨p_, l', e_, R_, s_, m_, ar_, be_, me_, c_⟩ := X
  obtain rfl : l' = l := hX
  by_cases h1 : (Q.sh s).cnt = 0
  · refine ri_aload_n h d_Md_corner_0 rfl ?_
    refine ri_aload_n h d_Md_corner_1 rfl ?_
    refine ri_iload_n h d_Md_corner_2 rfl ?_
    refine ri_iconstN h 0 d_Md_corner_3 rfl ?_
    refine ri_lload_n h d_Md_corner_4 rfl ?_
    refine ri_lload h d_Md_corner_5 rfl ?_
    refine ri_cVv_4 (r := (gR6, gT6, 44)) h d_Md_corner_7 cv_Md_140 (by first | exact hS.lcO | exact hS.lsO | exact hS.lpO | exact hS.cesO (by first | assumption | omega) | exact hS.cepO (by first | assumption | omega) | exact ⟨_, (by first | assumption | exact hS.st | exact hS.mo | exact hS.out | exact hS.sb | exact hS.ce (by first | assumption | omega) | exact hS.ceb (by first | assumption | omega) | exact hS.sh (by first | assumption | omega) | exact hS.shb (by first | assumption | omega) | exact hS.pl (by first | assumption | omega) | exact hS.plb (by first | assumption | omega) | exact hS.fl (by first | assumption | omega) | exact gup_s | (refine gup_t (by assumption) ?_; first | assumption | exact gup_s | (refine gup_t (by assumption) ?_; first | assumption | exact gup_s | (refine gup_t (by assumption) ?_; first | assumption | exact gup_s))))⟩) rfl (k_fault0_0 h0 hS hm hW hs hd hp hc hx hy) (Nat.le_of_ble_eq_true rfl) (Nat.le_of_ble_eq_true rfl) (Nat.le_of_ble_eq_true rfl) (Nat.le_of_ble_eq_true rfl) (Nat.le_of_ble_eq_true rfl) ?_
    refine ri_pm_code h d_Md_corner_10 fl_Md_108 hS (fun M hS => ?_)
    refine ri_aload_n h d_Md_corner_13 rfl ?_
    refine ri_get h d_Md_corner_14 fl_Md_108 (by first | assumption | exact hS.mo | exact gup_s) (by rfl) ?_
    try dsimp only [MS.code, MS.set_code]
    first | refine ri_ifN_le h 22 d_Md_corner_17 (by decide) (by omega) (fun c_17 => ?_) (fun c_17 => ?_) | refine ri_if_le h 22 d_Md_corner_17 (by decide) (fun c_17 => ?_) (fun c_17 => ?_)
    · first
      | (exfalso; first | exact absurd c_17 (by decide) | omega)
      | (refine ri_bipushN h 24 d_Md_corner_22 rfl ?_
         refine ri_iload_n h d_Md_corner_24 rfl ?_
         first | refine ri_imulN h d_Md_corner_25 ?_ | refine ri_imul h d_Md_corner_25 ?_
         refine ri_aload_n h d_Md_corner_26 rfl ?_
         refine ri_get h d_Md_corner_27 fl_Md_23 (by first | assumption | exact hS.mo | exact gup_s) (by rfl) ?_
         refine ri_iload_n h d_Md_corner_30 rfl ?_
         refine ri_ialdE h _ d_Md_corner_31 (by first | assumption | exact hS.a7) (by first | rfl | assumption) (by first | assumption | omega) (by first | decide | omega) (by first | assumption | exact hm.i7 (by first | assumption | omega) | rfl) ?_
         first | refine ri_iaddN h d_Md_corner_32 ?_ | refine ri_iadd h d_Md_corner_32 ?_
         refine ri_iconstN h 1 d_Md_corner_33 rfl ?_
         first | refine ri_isubN h d_Md_corner_34 (by first | omega | exact Nat.le_add_left _ _) ?_ | refine ri_isub h d_Md_corner_34 ?_
         refine ri_istore h d_Md_corner_35 (Nat.le_of_ble_eq_true rfl) ?_
         refine ri_aload_n h d_Md_corner_37 rfl ?_
         refine ri_get h d_Md_corner_38 fl_Md_23 (by first | assumption | exact hS.mo | exact gup_s) (by rfl) ?_
         refine ri_iload_n h d_Md_corner_41 rfl ?_
         refine ri_ialdE h _ d_Md_corner_42 (by first | assumption | exact hS.a7) (by first | rfl | assumption) (by first | assumption | omega) (by first | decide | omega) (by first | assumption | exact hm.i7 (by first | assumption | omega) | rfl) ?_
         first | refine ri_ifN_le h 73 d_Md_corner_43 (by decide) (by omega) (fun c_43 => ?_) (fun c_43 => ?_) | refine ri_if_le h 73 d_Md_corner_43 (by decide) (fun c_43 => ?_) (fun c_43 => ?_)
         · first
           | (exfalso; first | exact absurd c_43 (by decide) | omega)
           | (refine ri_aload_n h d_Md_corner_73 rfl ?_
              refine ri_iload_n h d_Md_corner_74 rfl ?_
              refine ri_lload_n h d_Md_corner_75 rfl ?_
              refine ri_lload h d_Md_corner_76 rfl ?_
              refine ri_dV0_3 (r := (gR6, gT6, 44)) h d_Md_corner_78 cv_Md_144 (by first | exact hS.lcO | exact hS.lsO | exact hS.lpO | exact hS.cesO (by first | assumption | omega) | exact hS.cepO (by first | assumption | omega) | exact ⟨_, (by first | assumption | exact hS.st | exact hS.mo | exact hS.out | exact hS.sb | exact hS.ce (by first | assumption | omega) | exact hS.ceb (by first | assumption | omega) | exact hS.sh (by first | assumption | omega) | exact hS.shb (by first | assumption | omega) | exact hS.pl (by first | assumption | omega) | exact hS.plb (by first | assumption | omega) | exact hS.fl (by first | assumption | omega) | exact gup_s | (refine gup_t (by assumption) ?_; first | assumption | exact gup_s | (refine gup_t (by assumption) ?_; first | assumption | exact gup_s | (refine gup_t (by assumption) ?_; first | assumption | exact gup_s))))⟩) rfl (k_madd h0 hS (show s < 120 by omega) hc (hm.i7 hs)) (Nat.le_of_ble_eq_true rfl) (Nat.le_of_ble_eq_true rfl) (Nat.le_of_ble_eq_true rfl) (Nat.le_of_ble_eq_true rfl) (Nat.le_of_ble_eq_true rfl) (fun M hS => ?_)
              obtain ⟨N', hS, rfl⟩ := hS
              refine ri_iconstN h 1 d_Md_corner_81 rfl ?_
              refine ri_zreturn h d_Md_corner_82 (Nat.le_of_ble_eq_true rfl) (Nat.le_of_ble_eq_true rfl) (by first | rfl | assumption) ?_
              exact ⟨rfl, _, hS, rfl⟩)
         · omega)
    · first
      | (exfalso; first | exact absurd c_17 (by decide) | omega)
      | (refine ri_iconstN h 0 d_Md_corner_20 rfl ?_
         refine ri_zreturn h d_Md_corner_21 (Nat.le_of_ble_eq_true rfl) (Nat.le_of_ble_eq_true rfl) (by first | rfl | assumption) ?_
         exact ⟨rfl, rfl⟩)
  · have h9 := h9 h1
    have h10 := h10 h1
    have e1 := tk_c (x := x) (y := y) h1 hw
    refine ri_aload_n h d_Md_corner_0 rfl ?_
    refine ri_aload_n h d_Md_corner_1 rfl ?_
    refine ri_iload_n h d_Md_corner_2 rfl ?_
    refine ri_iconstN h 0 d_Md_corner_3 rfl ?_
    refine ri_lload_n h d_Md_corner_4 rfl ?_
    refine ri_lload h d_Md_corner_5 rfl ?_
    refine ri_cVv_4 (r := (gR6, gT6, 44)) h d_Md_corner_7 cv_Md_140 (by first | exact hS.lcO | exact hS.lsO | exact hS.lpO | exact hS.cesO (by first | assumption | omega) | exact hS.cepO (by first | assumption | omega) | exact ⟨_, (by first | assumption | exact hS.st | exact hS.mo | exact hS.out | exact hS.sb | exact hS.ce (by first | assumption | omega) | exact hS.ceb (by first | assumption | omega) | exact hS.sh (by first | assumption | omega) | exact hS.shb (by first | assumption | omega) | exact hS.pl (by first | assumption | omega) | exact hS.plb (by first | assumption | omega) | exact hS.fl (by first | assumption | omega) | exact gup_s | (refine gup_t (by assumption) ?_; first | assumption | exact gup_s | (refine gup_t (by assumption) ?_; first | assumption | exact gup_s | (refine gup_t (by assumption) ?_; first | assumption | exact gup_s))))⟩) rfl (k_fault0_0 h0 hS hm hW hs hd hp hc hx hy) (Nat.le_of_ble_eq_true rfl) (Nat.le_of_ble_eq_true rfl) (Nat.le_of_ble_eq_true rfl) (Nat.le_of_ble_eq_true rfl) (Nat.le_of_ble_eq_true rfl) ?_
    refine ri_pm_code h d_Md_corner_10 fl_Md_108 hS (fun M hS => ?_)
    refine ri_aload_n h d_Md_corner_13 rfl ?_
    refine ri_get h d_Md_corner_14 fl_Md_108 (by first | assumption | exact hS.mo | exact gup_s) (by rfl) ?_
    try dsimp only [MS.code, MS.set_code]
    first | refine ri_ifN_le h 22 d_Md_corner_17 (by decide) (by omega) (fun c_17 => ?_) (fun c_17 => ?_) | refine ri_if_le h 22 d_Md_corner_17 (by decide) (fun c_17 => ?_) (fun c_17 => ?_)
    · first
      | (exfalso; first | exact absurd c_17 (by decide) | omega)
      | (refine ri_bipushN h 24 d_Md_corner_22 rfl ?_
         refine ri_iload_n h d_Md_corner_24 rfl ?_
         first | refine ri_imulN h d_Md_corner_25 ?_ | refine ri_imul h d_Md_corner_25 ?_
         refine ri_aload_n h d_Md_corner_26 rfl ?_
         refine ri_get h d_Md_corner_27 fl_Md_23 (by first | assumption | exact hS.mo | exact gup_s) (by rfl) ?_
         refine ri_iload_n h d_Md_corner_30 rfl ?_
         refine ri_ialdE h _ d_Md_corner_31 (by first | assumption | exact hS.a7) (by first | rfl | assumption) (by first | assumption | omega) (by first | decide | omega) (by first | assumption | exact hm.i7 (by first | assumption | omega) | rfl) ?_
         first | refine ri_iaddN h d_Md_corner_32 ?_ | refine ri_iadd h d_Md_corner_32 ?_
         refine ri_iconstN h 1 d_Md_corner_33 rfl ?_
         first | refine ri_isubN h d_Md_corner_34 (by first | omega | exact Nat.le_add_left _ _) ?_ | refine ri_isub h d_Md_corner_34 ?_
         refine ri_istore h d_Md_corner_35 (Nat.le_of_ble_eq_true rfl) ?_
         refine ri_aload_n h d_Md_corner_37 rfl ?_
         refine ri_get h d_Md_corner_38 fl_Md_23 (by first | assumption | exact hS.mo | exact gup_s) (by rfl) ?_
         refine ri_iload_n h d_Md_corner_41 rfl ?_
         refine ri_ialdE h _ d_Md_corner_42 (by first | assumption | exact hS.a7) (by first | rfl | assumption) (by first | assumption | omega) (by first | decide | omega) (by first | assumption | exact hm.i7 (by first | assumption | omega) | rfl) ?_
         first | refine ri_ifN_le h 73 d_Md_corner_43 (by decide) (by omega) (fun c_43 => ?_) (fun c_43 => ?_) | refine ri_if_le h 73 d_Md_corner_43 (by decide) (fun c_43 => ?_) (fun c_43 => ?_)
         · omega
         · first
           | (exfalso; first | exact absurd c_43 (by decide) | omega)
           | (refine ri_aload_n h d_Md_corner_46 rfl ?_
              refine ri_get h d_Md_corner_47 fl_Md_30 (by first | assumption | exact hS.mo | exact gup_s) (by rfl) ?_
              refine ri_iload h d_Md_corner_50 rfl ?_
              refine ri_laldE h _ d_Md_corner_52 (by first | assumption | exact hS.a9) (by first | rfl | assumption) (by first | assumption | omega) (by first | decide | omega) (by first | assumption | exact hm.i9 (by first | assumption | omega) (by first | assumption | omega) | rfl) ?_
              refine ri_lload_n h d_Md_corner_53 rfl ?_
              refine ri_lcmp_ne h 73 d_Md_corner_54 d_Md_corner_55 (by decide) (fun c_54 => ?_) (fun c_54 => ?_)
              · first
                | (exfalso; first | exact absurd c_54 (by decide) | omega)
                | (refine ri_aload_n h d_Md_corner_73 rfl ?_
                   refine ri_iload_n h d_Md_corner_74 rfl ?_
                   refine ri_lload_n h d_Md_corner_75 rfl ?_
                   refine ri_lload h d_Md_corner_76 rfl ?_
                   refine ri_dV0_3 (r := (gR6, gT6, 44)) h d_Md_corner_78 cv_Md_144 (by first | exact hS.lcO | exact hS.lsO | exact hS.lpO | exact hS.cesO (by first | assumption | omega) | exact hS.cepO (by first | assumption | omega) | exact ⟨_, (by first | assumption | exact hS.st | exact hS.mo | exact hS.out | exact hS.sb | exact hS.ce (by first | assumption | omega) | exact hS.ceb (by first | assumption | omega) | exact hS.sh (by first | assumption | omega) | exact hS.shb (by first | assumption | omega) | exact hS.pl (by first | assumption | omega) | exact hS.plb (by first | assumption | omega) | exact hS.fl (by first | assumption | omega) | exact gup_s | (refine gup_t (by assumption) ?_; first | assumption | exact gup_s | (refine gup_t (by assumption) ?_; first | assumption | exact gup_s | (refine gup_t (by assumption) ?_; first | assumption | exact gup_s))))⟩) rfl (k_madd h0 hS (show s < 120 by omega) hc (hm.i7 hs)) (Nat.le_of_ble_eq_true rfl) (Nat.le_of_ble_eq_true rfl) (Nat.le_of_ble_eq_true rfl) (Nat.le_of_ble_eq_true rfl) (Nat.le_of_ble_eq_true rfl) (fun M hS => ?_)
                   obtain ⟨N', hS, rfl⟩ := hS
                   refine ri_iconstN h 1 d_Md_corner_81 rfl ?_
                   refine ri_zreturn h d_Md_corner_82 (Nat.le_of_ble_eq_true rfl) (Nat.le_of_ble_eq_true rfl) (by first | rfl | assumption) ?_
                   exact ⟨rfl, _, hS, rfl⟩)
              · first
                | (exfalso; first | exact absurd c_54 (by decide) | omega)
                | (refine ri_aload_n h d_Md_corner_58 rfl ?_
                   refine ri_get h d_Md_corner_59 fl_Md_33 (by first | assumption | exact hS.mo | exact gup_s) (by rfl) ?_
                   refine ri_iload h d_Md_corner_62 rfl ?_
                   refine ri_laldE h _ d_Md_corner_64 (by first | assumption | exact hS.a10) (by first | rfl | assumption) (by first | assumption | omega) (by first | decide | omega) (by first | assumption | exact hm.i10 (by first | assumption | omega) (by first | assumption | omega) | rfl) ?_
                   refine ri_lload h d_Md_corner_65 rfl ?_
                   refine ri_lcmp_ne h 73 d_Md_corner_67 d_Md_corner_68 (by decide) (fun c_67 => ?_) (fun c_67 => ?_)
                   · first
                     | (exfalso; first | exact absurd c_67 (by decide) | omega)
                     | (refine ri_aload_n h d_Md_corner_73 rfl ?_
                        refine ri_iload_n h d_Md_corner_74 rfl ?_
                        refine ri_lload_n h d_Md_corner_75 rfl ?_
                        refine ri_lload h d_Md_corner_76 rfl ?_
                        refine ri_dV0_3 (r := (gR6, gT6, 44)) h d_Md_corner_78 cv_Md_144 (by first | exact hS.lcO | exact hS.lsO | exact hS.lpO | exact hS.cesO (by first | assumption | omega) | exact hS.cepO (by first | assumption | omega) | exact ⟨_, (by first | assumption | exact hS.st | exact hS.mo | exact hS.out | exact hS.sb | exact hS.ce (by first | assumption | omega) | exact hS.ceb (by first | assumption | omega) | exact hS.sh (by first | assumption | omega) | exact hS.shb (by first | assumption | omega) | exact hS.pl (by first | assumption | omega) | exact hS.plb (by first | assumption | omega) | exact hS.fl (by first | assumption | omega) | exact gup_s | (refine gup_t (by assumption) ?_; first | assumption | exact gup_s | (refine gup_t (by assumption) ?_; first | assumption | exact gup_s | (refine gup_t (by assumption) ?_; first | assumption | exact gup_s))))⟩) rfl (k_madd h0 hS (show s < 120 by omega) hc (hm.i7 hs)) (Nat.le_of_ble_eq_true rfl) (Nat.le_of_ble_eq_true rfl) (Nat.le_of_ble_eq_true rfl) (Nat.le_of_ble_eq_true rfl) (Nat.le_of_ble_eq_true rfl) (fun M hS => ?_)
                        obtain ⟨N', hS, rfl⟩ := hS
                        refine ri_iconstN h 1 d_Md_corner_81 rfl ?_
                        refine ri_zreturn h d_Md_corner_82 (Nat.le_of_ble_eq_true rfl) (Nat.le_of_ble_eq_true rfl) (by first | rfl | assumption) ?_
                        exact ⟨rfl, _, hS, rfl⟩)
                   · first
                     | (exfalso; first | exact absurd c_67 (by decide) | omega)
                     | (exact absurd ⟨c_54, c_67⟩ (e1.mp ht)))))
    · first
      | (exfalso; first | exact absurd c_17 (by decide) | omega)
      | (refine ri_iconstN h 0 d_Md_corner_20 rfl ?_
         refine ri_zreturn h d_Md_corner_21 (Nat.le_of_ble_eq_true rfl) (Nat.le_of_ble_eq_true rfl) (by first | rfl | assumption) ?_
         exact ⟨rfl, _, hS, rfl⟩)
theorem k_mcorner_0 (h0 : g_0 l D s0) (hS : HS z ad Qc N M) (hm : MR Q N) (hW : WB Q) {s : Nat} (hs : s < Q.nS) (hd : (Q.sh s).drop = 0) (hp : spath (Q.sh s).w = 0) {x y : Int64} (hc : (Q.sh s).cnt < 24) (hx : nearB x) (hy : nearB y) (ht : ¬ takesB (Q.sh s) x y) : Ct l D s0 y_Md_corner (Cond.code y_Md_corner b_Md_corner 7 (some .boolean)) rkM [.ref (ad 30 0), .int (nI s), .long x, .long y] M (fM z ad Qc (some (.int 0)) (fun N' => N' = N.set_code 0)) := by
  have hb1 := hW.2.1
  have hw : ¬ 0 < (Q.sh s).w := by
    by_cases q : 0 < (Q.sh s).w
    · exact absurd hp (by simp [spath, q])
    · exact q
  have h9 : ¬ (Q.sh s).cnt = 0 → N.l 9 (24 * s + (Q.sh s).cnt - 1) = (Q.sh s).xs ((Q.sh s).cnt - 1) := fun q => by rw [show 24 * s + (Q.sh s).cnt - 1 = 24 * s + ((Q.sh s).cnt - 1) by omega]; exact hm.i9 hs (by omega)
  have h10 : ¬ (Q.sh s).cnt = 0 → N.l 10 (24 * s + (Q.sh s).cnt - 1) = (Q.sh s).ys ((Q.sh s).cnt - 1) := fun q => by rw [show 24 * s + (Q.sh s).cnt - 1 = 24 * s + ((Q.sh s).cnt - 1) by omega]; exact hm.i10 hs (by omega)
  refine Ct.of h0 (by decide +kernel) rfl fun X hX h => ?_
  obtain ⟨p_, l', e_, R_, s_, m_, ar_, be_, me_, c_⟩ := X
  obtain rfl : l' = l := hX
  by_cases h1 : (Q.sh s).cnt = 0
  · refine ri_aload_n h d_Md_corner_0 rfl ?_
    refine ri_aload_n h d_Md_corner_1 rfl ?_
    refine ri_iload_n h d_Md_corner_2 rfl ?_
    refine ri_iconstN h 0 d_Md_corner_3 rfl ?_
    refine ri_lload_n h d_Md_corner_4 rfl ?_
    refine ri_lload h d_Md_corner_5 rfl ?_
    refine ri_cVv_4 (r := (gR6, gT6, 44)) h d_Md_corner_7 cv_Md_140 (by first | exact hS.lcO | exact hS.lsO | exact hS.lpO | exact hS.cesO (by first | assumption | omega) | exact hS.cepO (by first | assumption | omega) | exact ⟨_, (by first | assumption | exact hS.st | exact hS.mo | exact hS.out | exact hS.sb | exact hS.ce (by first | assumption | omega) | exact hS.ceb (by first | assumption | omega) | exact hS.sh (by first | assumption | omega) | exact hS.shb (by first | assumption | omega) | exact hS.pl (by first | assumption | omega) | exact hS.plb (by first | assumption | omega) | exact hS.fl (by first | assumption | omega) | exact gup_s | (refine gup_t (by assumption) ?_; first | assumption | exact gup_s | (refine gup_t (by assumption) ?_; first | assumption | exact gup_s | (refine gup_t (by assumption) ?_; first | assumption | exact gup_s))))⟩) rfl (k_fault0_0 h0 hS hm hW hs hd hp hc hx hy) (Nat.le_of_ble_eq_true rfl) (Nat.le_of_ble_eq_true rfl) (Nat.le_of_ble_eq_true rfl) (Nat.le_of_ble_eq_true rfl) (Nat.le_of_ble_eq_true rfl) ?_
    exact absurd (Or.inl h1) ht
  · have h9 := h9 h1
    have h10 := h10 h1
    have e1 := tk_c (x := x) (y := y) h1 hw
    refine ri_aload_n h d_Md_corner_0 rfl ?_
    refine ri_aload_n h d_Md_corner_1 rfl ?_
    refine ri_iload_n h d_Md_corner_2 rfl ?_
    refine ri_iconstN h 0 d_Md_corner_3 rfl ?_
    refine ri_lload_n h d_Md_corner_4 rfl ?_
    refine ri_lload h d_Md_corner_5 rfl ?_
    refine ri_cVv_4 (r := (gR6, gT6, 44)) h d_Md_corner_7 cv_Md_140 (by first | exact hS.lcO | exact hS.lsO | exact hS.lpO | exact hS.cesO (by first | assumption | omega) | exact hS.cepO (by first | assumption | omega) | exact ⟨_, (by first | assumption | exact hS.st | exact hS.mo | exact hS.out | exact hS.sb | exact hS.ce (by first | assumption | omega) | exact hS.ceb (by first | assumption | omega) | exact hS.sh (by first | assumption | omega) | exact hS.shb (by first | assumption | omega) | exact hS.pl (by first | assumption | omega) | exact hS.plb (by first | assumption | omega) | exact hS.fl (by first | assumption | omega) | exact gup_s | (refine gup_t (by assumption) ?_; first | assumption | exact gup_s | (refine gup_t (by assumption) ?_; first | assumption | exact gup_s | (refine gup_t (by assumption) ?_; first | assumption | exact gup_s))))⟩) rfl (k_fault0_0 h0 hS hm hW hs hd hp hc hx hy) (Nat.le_of_ble_eq_true rfl) (Nat.le_of_ble_eq_true rfl) (Nat.le_of_ble_eq_true rfl) (Nat.le_of_ble_eq_true rfl) (Nat.le_of_ble_eq_true rfl) ?_
    refine ri_pm_code h d_Md_corner_10 fl_Md_108 hS (fun M hS => ?_)
    refine ri_aload_n h d_Md_corner_13 rfl ?_
    refine ri_get h d_Md_corner_14 fl_Md_108 (by first | assumption | exact hS.mo | exact gup_s) (by rfl) ?_
    try dsimp only [MS.code, MS.set_code]
    first | refine ri_ifN_le h 22 d_Md_corner_17 (by decide) (by omega) (fun c_17 => ?_) (fun c_17 => ?_) | refine ri_if_le h 22 d_Md_corner_17 (by decide) (fun c_17 => ?_) (fun c_17 => ?_)
    · first
      | (exfalso; first | exact absurd c_17 (by decide) | omega)
      | (refine ri_bipushN h 24 d_Md_corner_22 rfl ?_
         refine ri_iload_n h d_Md_corner_24 rfl ?_
         first | refine ri_imulN h d_Md_corner_25 ?_ | refine ri_imul h d_Md_corner_25 ?_
         refine ri_aload_n h d_Md_corner_26 rfl ?_
         refine ri_get h d_Md_corner_27 fl_Md_23 (by first | assumption | exact hS.mo | exact gup_s) (by rfl) ?_
         refine ri_iload_n h d_Md_corner_30 rfl ?_
         refine ri_ialdE h _ d_Md_corner_31 (by first | assumption | exact hS.a7) (by first | rfl | assumption) (by first | assumption | omega) (by first | decide | omega) (by first | assumption | exact hm.i7 (by first | assumption | omega) | rfl) ?_
         first | refine ri_iaddN h d_Md_corner_32 ?_ | refine ri_iadd h d_Md_corner_32 ?_
         refine ri_iconstN h 1 d_Md_corner_33 rfl ?_
         first | refine ri_isubN h d_Md_corner_34 (by first | omega | exact Nat.le_add_left _ _) ?_ | refine ri_isub h d_Md_corner_34 ?_
         refine ri_istore h d_Md_corner_35 (Nat.le_of_ble_eq_true rfl) ?_
         refine ri_aload_n h d_Md_corner_37 rfl ?_
         refine ri_get h d_Md_corner_38 fl_Md_23 (by first | assumption | exact hS.mo | exact gup_s) (by rfl) ?_
         refine ri_iload_n h d_Md_corner_41 rfl ?_
         refine ri_ialdE h _ d_Md_corner_42 (by first | assumption | exact hS.a7) (by first | rfl | assumption) (by first | assumption | omega) (by first | decide | omega) (by first | assumption | exact hm.i7 (by first | assumption | omega) | rfl) ?_
         first | refine ri_ifN_le h 73 d_Md_corner_43 (by decide) (by omega) (fun c_43 => ?_) (fun c_43 => ?_) | refine ri_if_le h 73 d_Md_corner_43 (by decide) (fun c_43 => ?_) (fun c_43 => ?_)
         · omega
         · first
           | (exfalso; first | exact absurd c_43 (by decide) | omega)
           | (refine ri_aload_n h d_Md_corner_46 rfl ?_
              refine ri_get h d_Md_corner_47 fl_Md_30 (by first | assumption | exact hS.mo | exact gup_s) (by rfl) ?_
              refine ri_iload h d_Md_corner_50 rfl ?_
              refine ri_laldE h _ d_Md_corner_52 (by first | assumption | exact hS.a9) (by first | rfl | assumption) (by first | assumption | omega) (by first | decide | omega) (by first | assumption | exact hm.i9 (by first | assumption | omega) (by first | assumption | omega) | rfl) ?_
              refine ri_lload_n h d_Md_corner_53 rfl ?_
              refine ri_lcmp_ne h 73 d_Md_corner_54 d_Md_corner_55 (by decide) (fun c_54 => ?_) (fun c_54 => ?_)
              · first
                | (exfalso; first | exact absurd c_54 (by decide) | omega)
                | (refine ri_aload_n h d_Md_corner_73 rfl ?_
                   refine ri_iload_n h d_Md_corner_74 rfl ?_
                   refine ri_lload_n h d_Md_corner_75 rfl ?_
                   refine ri_lload h d_Md_corner_76 rfl ?_
                   exact absurd (e1.mpr (fun q => by first | exact c_54 q.1 | exact c_67 q.2)) ht)
              · first
                | (exfalso; first | exact absurd c_54 (by decide) | omega)
                | (refine ri_aload_n h d_Md_corner_58 rfl ?_
                   refine ri_get h d_Md_corner_59 fl_Md_33 (by first | assumption | exact hS.mo | exact gup_s) (by rfl) ?_
                   refine ri_iload h d_Md_corner_62 rfl ?_
                   refine ri_laldE h _ d_Md_corner_64 (by first | assumption | exact hS.a10) (by first | rfl | assumption) (by first | assumption | omega) (by first | decide | omega) (by first | assumption | exact hm.i10 (by first | assumption | omega) (by first | assumption | omega) | rfl) ?_
                   refine ri_lload h d_Md_corner_65 rfl ?_
                   refine ri_lcmp_ne h 73 d_Md_corner_67 d_Md_corner_68 (by decide) (fun c_67 => ?_) (fun c_67 => ?_)
                   · first
                     | (exfalso; first | exact absurd c_67 (by decide) | omega)
                     | (refine ri_aload_n h d_Md_corner_73 rfl ?_
                        refine ri_iload_n h d_Md_corner_74 rfl ?_
                        refine ri_lload_n h d_Md_corner_75 rfl ?_
                        refine ri_lload h d_Md_corner_76 rfl ?_
                        exact absurd (e1.mpr (fun q => by first | exact c_54 q.1 | exact c_67 q.2)) ht)
                   · first
                     | (exfalso; first | exact absurd c_67 (by decide) | omega)
                     | (refine ri_iconstN h 0 d_Md_point_84 rfl ?_
                        refine ri_zreturn h d_Md_point_85 (Nat.le_of_ble_eq_true rfl) (Nat.le_of_ble_eq_true rfl) (by first | rfl | assumption) ?_
                        exact ⟨rfl, _, hS, rfl⟩))))
    · first
      | (exfalso; first | exact absurd c_17 (by decide) | omega)
      | (refine ri_iconstN h 0 d_Md_corner_20 rfl ?_
         refine ri_zreturn h d_Md_corner_21 (Nat.le_of_ble_eq_true rfl) (Nat.le_of_ble_eq_true rfl) (by first | rfl | assumption) ?_
         exact ⟨rfl, _, hS, rfl⟩)
theorem k_mpoint_no1 (h0 : g_0 l D s0) (hS : HS z ad Qc N M) (hm : MR Q N) (hW : WB Q) {v : Int32} {x y : Int64} (hn : ¬ ∃ s, s < Q.nS ∧ v = nI s ∧ (Q.sh s).drop = 0 ∧ spath (Q.sh s).w = 1) : Ct l D s0 y_Md_point (Cond.code y_Md_point b_Md_point 7 (some .boolean)) rkM [.ref (ad 30 0), .int v, .long x, .long y] M (fM z ad Qc (some (.int 0)) (fun N' => N' = N.set_code 1)) := by
  refine Ct.of h0 (by decide +kernel) rfl fun X hX h => ?_
  obtain ⟨p_, l', e_, R_, s_, m_, ar_, be_, me_, c_⟩ := X
  obtain rfl : l' = l := hX
  refine ri_aload_n h d_Md_point_0 rfl ?_
  refine ri_aload_n h d_Md_point_1 rfl ?_
  refine ri_iload_n h d_Md_point_2 rfl ?_
  refine ri_iconstN h 1 d_Md_point_3 rfl ?_
  refine ri_lload_n h d_Md_point_4 rfl ?_
  refine ri_lload h d_Md_point_5 rfl ?_
  refine ri_cVv_4 (r := (gR6, gT6, 44)) h d_Md_point_7 cv_Md_140 (by first | exact hS.lcO | exact hS.lsO | exact hS.lpO | exact hS.cesO (by first | assumption | omega) | exact hS.cepO (by first | assumption | omega) | exact ⟨_, (by first | assumption | exact hS.st | exact hS.mo | exact hS.out | exact hS.sb | exact hS.ce (by first | assumption | omega) | exact hS.ceb (by first | assumption | omega) | exact hS.sh (by first | assumption | omega) | exact hS.shb (by first | assumption | omega) | exact hS.pl (by first | assumption | omega) | exact hS.plb (by first | assumption | omega) | exact hS.fl (by first | assumption | omega) | exact gup_s | (refine gup_t (by assumption) ?_; first | assumption | exact gup_s | (refine gup_t (by assumption) ?_; first | assumption | exact gup_s | (refine gup_t (by assumption) ?_; first | assumption | exact gup_s))))⟩) rfl (k_fault1_1 h0 hS hm hW hn) (Nat.le_of_ble_eq_true rfl) (Nat.le_of_ble_eq_true rfl) (Nat.le_of_ble_eq_true rfl) (Nat.le_of_ble_eq_true rfl) (Nat.le_of_ble_eq_true rfl) ?_
  refine ri_pm_code h d_Md_point_10 fl_Md_108 hS (fun M hS => ?_)
  refine ri_aload_n h d_Md_point_13 rfl ?_
  refine ri_get h d_Md_point_14 fl_Md_108 (by first | assumption | exact hS.mo | exact gup_s) (by rfl) ?_
  try dsimp only [MS.code, MS.set_code]
  first | refine ri_ifN_le h 22 d_Md_point_17 (by decide) (by omega) (fun c_17 => ?_) (fun c_17 => ?_) | refine ri_if_le h 22 d_Md_point_17 (by decide) (fun c_17 => ?_) (fun c_17 => ?_)
  · first
    | (exfalso; first | exact absurd c_17 (by decide) | omega)
    | (omega)
  · first
    | (exfalso; first | exact absurd c_17 (by decide) | omega)
    | (refine ri_iconstN h 0 d_Md_point_20 rfl ?_
       refine ri_zreturn h d_Md_point_21 (Nat.le_of_ble_eq_true rfl) (Nat.le_of_ble_eq_true rfl) (by first | rfl | assumption) ?_
       exact ⟨rfl, _, hS, rfl⟩)
theorem k_mpoint_no2 (h0 : g_0 l D s0) (hS : HS z ad Qc N M) (hm : MR Q N) (hW : WB Q) {s : Nat} (hs : s < Q.nS) (hd : (Q.sh s).drop = 0) (hp : spath (Q.sh s).w = 1) {x y : Int64} (hc : (Q.sh s).cnt = 24) : Ct l D s0 y_Md_point (Cond.code y_Md_point b_Md_point 7 (some .boolean)) rkM [.ref (ad 30 0), .int (nI s), .long x, .long y] M (fM z ad Qc (some (.int 0)) (fun N' => N' = N.set_code 2)) := by
  refine Ct.of h0 (by decide +kernel) rfl fun X hX h => ?_
  obtain ⟨p_, l', e_, R_, s_, m_, ar_, be_, me_, c_⟩ := X
  obtain rfl : l' = l := hX
  refine ri_aload_n h d_Md_point_0 rfl ?_
  refine ri_aload_n h d_Md_point_1 rfl ?_
  refine ri_iload_n h d_Md_point_2 rfl ?_
  refine ri_iconstN h 1 d_Md_point_3 rfl ?_
  refine ri_lload_n h d_Md_point_4 rfl ?_
  refine ri_lload h d_Md_point_5 rfl ?_
  refine ri_cVv_4 (r := (gR6, gT6, 44)) h d_Md_point_7 cv_Md_140 (by first | exact hS.lcO | exact hS.lsO | exact hS.lpO | exact hS.cesO (by first | assumption | omega) | exact hS.cepO (by first | assumption | omega) | exact ⟨_, (by first | assumption | exact hS.st | exact hS.mo | exact hS.out | exact hS.sb | exact hS.ce (by first | assumption | omega) | exact hS.ceb (by first | assumption | omega) | exact hS.sh (by first | assumption | omega) | exact hS.shb (by first | assumption | omega) | exact hS.pl (by first | assumption | omega) | exact hS.plb (by first | assumption | omega) | exact hS.fl (by first | assumption | omega) | exact gup_s | (refine gup_t (by assumption) ?_; first | assumption | exact gup_s | (refine gup_t (by assumption) ?_; first | assumption | exact gup_s | (refine gup_t (by assumption) ?_; first | assumption | exact gup_s))))⟩) rfl (k_fault1_2 h0 hS hm hW hs hd hp hc) (Nat.le_of_ble_eq_true rfl) (Nat.le_of_ble_eq_true rfl) (Nat.le_of_ble_eq_true rfl) (Nat.le_of_ble_eq_true rfl) (Nat.le_of_ble_eq_true rfl) ?_
  refine ri_pm_code h d_Md_point_10 fl_Md_108 hS (fun M hS => ?_)
  refine ri_aload_n h d_Md_point_13 rfl ?_
  refine ri_get h d_Md_point_14 fl_Md_108 (by first | assumption | exact hS.mo | exact gup_s) (by rfl) ?_
  try dsimp only [MS.code, MS.set_code]
  first | refine ri_ifN_le h 22 d_Md_point_17 (by decide) (by omega) (fun c_17 => ?_) (fun c_17 => ?_) | refine ri_if_le h 22 d_Md_point_17 (by decide) (fun c_17 => ?_) (fun c_17 => ?_)
  · first
    | (exfalso; first | exact absurd c_17 (by decide) | omega)
    | (omega)
  · first
    | (exfalso; first | exact absurd c_17 (by decide) | omega)
    | (refine ri_iconstN h 0 d_Md_point_20 rfl ?_
       refine ri_zreturn h d_Md_point_21 (Nat.le_of_ble_eq_true rfl) (Nat.le_of_ble_eq_true rfl) (by first | rfl | assumption) ?_
       exact ⟨rfl, _, hS, rfl⟩)
theorem k_mpoint_no3 (h0 : g_0 l D s0) (hS : HS z ad Qc N M) (hm : MR Q N) (hW : WB Q) {s : Nat} (hs : s < Q.nS) (hd : (Q.sh s).drop = 0) (hp : spath (Q.sh s).w = 1) {x y : Int64} (hc : (Q.sh s).cnt < 24) (hn : ¬ (nearB x ∧ nearB y)) : Ct l D s0 y_Md_point (Cond.code y_Md_point b_Md_point 7 (some .boolean)) rkM [.ref (ad 30 0), .int (nI s), .long x, .long y] M (fM z ad Qc (some (.int 0)) (fun N' => N' = N.set_code 3)) := by
  refine Ct.of h0 (by decide +kernel) rfl fun X hX h => ?_
  obtain ⟨p_, l', e_, R_, s_, m_, ar_, be_, me_, c_⟩ := X
  obtain rfl : l' = l := hX
  refine ri_aload_n h d_Md_point_0 rfl ?_
  refine ri_aload_n h d_Md_point_1 rfl ?_
  refine ri_iload_n h d_Md_point_2 rfl ?_
  refine ri_iconstN h 1 d_Md_point_3 rfl ?_
  refine ri_lload_n h d_Md_point_4 rfl ?_
  refine ri_lload h d_Md_point_5 rfl ?_
  refine ri_cVv_4 (r := (gR6, gT6, 44)) h d_Md_point_7 cv_Md_140 (by first | exact hS.lcO | exact hS.lsO | exact hS.lpO | exact hS.cesO (by first | assumption | omega) | exact hS.cepO (by first | assumption | omega) | exact ⟨_, (by first | assumption | exact hS.st | exact hS.mo | exact hS.out | exact hS.sb | exact hS.ce (by first | assumption | omega) | exact hS.ceb (by first | assumption | omega) | exact hS.sh (by first | assumption | omega) | exact hS.shb (by first | assumption | omega) | exact hS.pl (by first | assumption | omega) | exact hS.plb (by first | assumption | omega) | exact hS.fl (by first | assumption | omega) | exact gup_s | (refine gup_t (by assumption) ?_; first | assumption | exact gup_s | (refine gup_t (by assumption) ?_; first | assumption | exact gup_s | (refine gup_t (by assumption) ?_; first | assumption | exact gup_s))))⟩) rfl (k_fault1_3 h0 hS hm hW hs hd hp hc hn) (Nat.le_of_ble_eq_true rfl) (Nat.le_of_ble_eq_true rfl) (Nat.le_of_ble_eq_true rfl) (Nat.le_of_ble_eq_true rfl) (Nat.le_of_ble_eq_true rfl) ?_
  refine ri_pm_code h d_Md_point_10 fl_Md_108 hS (fun M hS => ?_)
  refine ri_aload_n h d_Md_point_13 rfl ?_
  refine ri_get h d_Md_point_14 fl_Md_108 (by first | assumption | exact hS.mo | exact gup_s) (by rfl) ?_
  try dsimp only [MS.code, MS.set_code]
  first | refine ri_ifN_le h 22 d_Md_point_17 (by decide) (by omega) (fun c_17 => ?_) (fun c_17 => ?_) | refine ri_if_le h 22 d_Md_point_17 (by decide) (fun c_17 => ?_) (fun c_17 => ?_)
  · first
    | (exfalso; first | exact absurd c_17 (by decide) | omega)
    | (omega)
  · first
    | (exfalso; first | exact absurd c_17 (by decide) | omega)
    | (refine ri_iconstN h 0 d_Md_point_20 rfl ?_
       refine ri_zreturn h d_Md_point_21 (Nat.le_of_ble_eq_true rfl) (Nat.le_of_ble_eq_true rfl) (by first | rfl | assumption) ?_
       exact ⟨rfl, _, hS, rfl⟩)
theorem k_mpoint_ok (h0 : g_0 l D s0) (hS : HS z ad Qc N M) (hm : MR Q N) (hW : WB Q) {s : Nat} (hs : s < Q.nS) (hd : (Q.sh s).drop = 0) (hp : spath (Q.sh s).w = 1) {x y : Int64} (hc : (Q.sh s).cnt < 24) (hx : nearB x) (hy : nearB y) (ht : takesB (Q.sh s) x y) : Ct l D s0 y_Md_point (Cond.code y_Md_point b_Md_point 7 (some .boolean)) rkM [.ref (ad 30 0), .int (nI s), .long x, .long y] M (fM z ad Qc (some (.int 1)) (fun N' => N' = adN (N.set_code 0) s (Q.sh s).cnt x y)) := by
  have hb1 := hW.2.1
  have hw : 0 < (Q.sh s).w := by
    by_cases q : 0 < (Q.sh s).w
    · exact q
    · exact absurd hp (by simp [spath, q])
  have h9 : ¬ (Q.sh s).cnt = 0 → N.l 9 (24 * s + (Q.sh s).cnt - 1) = (Q.sh s).xs ((Q.sh s).cnt - 1) := fun q => by rw [show 24 * s + (Q.sh s).cnt - 1 = 24 * s + ((Q.sh s).cnt - 1) by omega]; exact hm.i9 hs (by omega)
  have h10 : ¬ (Q.sh s).cnt = 0 → N.l 10 (24 * s + (Q.sh s).cnt - 1) = (Q.sh s).ys ((Q.sh s).cnt - 1) := fun q => by rw [show 24 * s + (Q.sh s).cnt - 1 = 24 * s + ((Q.sh s).cnt - 1) by omega]; exact hm.i10 hs (by omega)
  refine Ct.of h0 (by decide +kernel) rfl fun X hX h => ?_
  obtain ⟨p_, l', e_, R_, s_, m_, ar_, be_, me_, c_⟩ := X
  obtain rfl : l' = l := hX
  by_cases h1 : (Q.sh s).cnt = 0
  · refine ri_aload_n h d_Md_point_0 rfl ?_
    refine ri_aload_n h d_Md_point_1 rfl ?_
    refine ri_iload_n h d_Md_point_2 rfl ?_
    refine ri_iconstN h 1 d_Md_point_3 rfl ?_
    refine ri_lload_n h d_Md_point_4 rfl ?_
    refine ri_lload h d_Md_point_5 rfl ?_
    refine ri_cVv_4 (r := (gR6, gT6, 44)) h d_Md_point_7 cv_Md_140 (by first | exact hS.lcO | exact hS.lsO | exact hS.lpO | exact hS.cesO (by first | assumption | omega) | exact hS.cepO (by first | assumption | omega) | exact ⟨_, (by first | assumption | exact hS.st | exact hS.mo | exact hS.out | exact hS.sb | exact hS.ce (by first | assumption | omega) | exact hS.ceb (by first | assumption | omega) | exact hS.sh (by first | assumption | omega) | exact hS.shb (by first | assumption | omega) | exact hS.pl (by first | assumption | omega) | exact hS.plb (by first | assumption | omega) | exact hS.fl (by first | assumption | omega) | exact gup_s | (refine gup_t (by assumption) ?_; first | assumption | exact gup_s | (refine gup_t (by assumption) ?_; first | assumption | exact gup_s | (refine gup_t (by assumption) ?_; first | assumption | exact gup_s))))⟩) rfl (k_fault1_0 h0 hS hm hW hs hd hp hc hx hy) (Nat.le_of_ble_eq_true rfl) (Nat.le_of_ble_eq_true rfl) (Nat.le_of_ble_eq_true rfl) (Nat.le_of_ble_eq_true rfl) (Nat.le_of_ble_eq_true rfl) ?_
    refine ri_pm_code h d_Md_point_10 fl_Md_108 hS (fun M hS => ?_)
    refine ri_aload_n h d_Md_point_13 rfl ?_
    refine ri_get h d_Md_point_14 fl_Md_108 (by first | assumption | exact hS.mo | exact gup_s) (by rfl) ?_
    try dsimp only [MS.code, MS.set_code]
    first | refine ri_ifN_le h 22 d_Md_point_17 (by decide) (by omega) (fun c_17 => ?_) (fun c_17 => ?_) | refine ri_if_le h 22 d_Md_point_17 (by decide) (fun c_17 => ?_) (fun c_17 => ?_)
    · first
      | (exfalso; first | exact absurd c_17 (by decide) | omega)
      | (refine ri_bipushN h 24 d_Md_point_22 rfl ?_
         refine ri_iload_n h d_Md_point_24 rfl ?_
         first | refine ri_imulN h d_Md_point_25 ?_ | refine ri_imul h d_Md_point_25 ?_
         refine ri_aload_n h d_Md_point_26 rfl ?_
         refine ri_get h d_Md_point_27 fl_Md_23 (by first | assumption | exact hS.mo | exact gup_s) (by rfl) ?_
         refine ri_iload_n h d_Md_point_30 rfl ?_
         refine ri_ialdE h _ d_Md_point_31 (by first | assumption | exact hS.a7) (by first | rfl | assumption) (by first | assumption | omega) (by first | decide | omega) (by first | assumption | exact hm.i7 (by first | assumption | omega) | rfl) ?_
         first | refine ri_iaddN h d_Md_point_32 ?_ | refine ri_iadd h d_Md_point_32 ?_
         refine ri_iconstN h 1 d_Md_point_33 rfl ?_
         first | refine ri_isubN h d_Md_point_34 (by first | omega | exact Nat.le_add_left _ _) ?_ | refine ri_isub h d_Md_point_34 ?_
         refine ri_istore h d_Md_point_35 (Nat.le_of_ble_eq_true rfl) ?_
         refine ri_aload_n h d_Md_point_37 rfl ?_
         refine ri_get h d_Md_point_38 fl_Md_23 (by first | assumption | exact hS.mo | exact gup_s) (by rfl) ?_
         refine ri_iload_n h d_Md_point_41 rfl ?_
         refine ri_ialdE h _ d_Md_point_42 (by first | assumption | exact hS.a7) (by first | rfl | assumption) (by first | assumption | omega) (by first | decide | omega) (by first | assumption | exact hm.i7 (by first | assumption | omega) | rfl) ?_
         first | refine ri_ifN_le h 86 d_Md_point_43 (by decide) (by omega) (fun c_43 => ?_) (fun c_43 => ?_) | refine ri_if_le h 86 d_Md_point_43 (by decide) (fun c_43 => ?_) (fun c_43 => ?_)
         · first
           | (exfalso; first | exact absurd c_43 (by decide) | omega)
           | (refine ri_aload_n h d_Md_point_86 rfl ?_
              refine ri_iload_n h d_Md_point_87 rfl ?_
              refine ri_lload_n h d_Md_point_88 rfl ?_
              refine ri_lload h d_Md_point_89 rfl ?_
              refine ri_dV0_3 (r := (gR6, gT6, 44)) h d_Md_point_91 cv_Md_144 (by first | exact hS.lcO | exact hS.lsO | exact hS.lpO | exact hS.cesO (by first | assumption | omega) | exact hS.cepO (by first | assumption | omega) | exact ⟨_, (by first | assumption | exact hS.st | exact hS.mo | exact hS.out | exact hS.sb | exact hS.ce (by first | assumption | omega) | exact hS.ceb (by first | assumption | omega) | exact hS.sh (by first | assumption | omega) | exact hS.shb (by first | assumption | omega) | exact hS.pl (by first | assumption | omega) | exact hS.plb (by first | assumption | omega) | exact hS.fl (by first | assumption | omega) | exact gup_s | (refine gup_t (by assumption) ?_; first | assumption | exact gup_s | (refine gup_t (by assumption) ?_; first | assumption | exact gup_s | (refine gup_t (by assumption) ?_; first | assumption | exact gup_s))))⟩) rfl (k_madd h0 hS (show s < 120 by omega) hc (hm.i7 hs)) (Nat.le_of_ble_eq_true rfl) (Nat.le_of_ble_eq_true rfl) (Nat.le_of_ble_eq_true rfl) (Nat.le_of_ble_eq_true rfl) (Nat.le_of_ble_eq_true rfl) (fun M hS => ?_)
              obtain ⟨N', hS, rfl⟩ := hS
              refine ri_iconstN h 1 d_Md_point_94 rfl ?_
              refine ri_zreturn h d_Md_point_95 (Nat.le_of_ble_eq_true rfl) (Nat.le_of_ble_eq_true rfl) (by first | rfl | assumption) ?_
              exact ⟨rfl, _, hS, rfl⟩)
         · omega)
    · first
      | (exfalso; first | exact absurd c_17 (by decide) | omega)
      | (refine ri_iconstN h 0 d_Md_point_20 rfl ?_
         refine ri_zreturn h d_Md_point_21 (Nat.le_of_ble_eq_true rfl) (Nat.le_of_ble_eq_true rfl) (by first | rfl | assumption) ?_
         exact ⟨rfl, rfl⟩)
  · have h9 := h9 h1
    have h10 := h10 h1
    have e1 := tk_p (x := x) (y := y) h1 hw
    refine ri_aload_n h d_Md_point_0 rfl ?_
    refine ri_aload_n h d_Md_point_1 rfl ?_
    refine ri_iload_n h d_Md_point_2 rfl ?_
    refine ri_iconstN h 1 d_Md_point_3 rfl ?_
    refine ri_lload_n h d_Md_point_4 rfl ?_
    refine ri_lload h d_Md_point_5 rfl ?_
    refine ri_cVv_4 (r := (gR6, gT6, 44)) h d_Md_point_7 cv_Md_140 (by first | exact hS.lcO | exact hS.lsO | exact hS.lpO | exact hS.cesO (by first | assumption | omega) | exact hS.cepO (by first | assumption | omega) | exact ⟨_, (by first | assumption | exact hS.st | exact hS.mo | exact hS.out | exact hS.sb | exact hS.ce (by first | assumption | omega) | exact hS.ceb (by first | assumption | omega) | exact hS.sh (by first | assumption | omega) | exact hS.shb (by first | assumption | omega) | exact hS.pl (by first | assumption | omega) | exact hS.plb (by first | assumption | omega) | exact hS.fl (by first | assumption | omega) | exact gup_s | (refine gup_t (by assumption) ?_; first | assumption | exact gup_s | (refine gup_t (by assumption) ?_; first | assumption | exact gup_s | (refine gup_t (by assumption) ?_; first | assumption | exact gup_s))))⟩) rfl (k_fault1_0 h0 hS hm hW hs hd hp hc hx hy) (Nat.le_of_ble_eq_true rfl) (Nat.le_of_ble_eq_true rfl) (Nat.le_of_ble_eq_true rfl) (Nat.le_of_ble_eq_true rfl) (Nat.le_of_ble_eq_true rfl) ?_
    refine ri_pm_code h d_Md_point_10 fl_Md_108 hS (fun M hS => ?_)
    refine ri_aload_n h d_Md_point_13 rfl ?_
    refine ri_get h d_Md_point_14 fl_Md_108 (by first | assumption | exact hS.mo | exact gup_s) (by rfl) ?_
    try dsimp only [MS.code, MS.set_code]
    first | refine ri_ifN_le h 22 d_Md_point_17 (by decide) (by omega) (fun c_17 => ?_) (fun c_17 => ?_) | refine ri_if_le h 22 d_Md_point_17 (by decide) (fun c_17 => ?_) (fun c_17 => ?_)
    · first
      | (exfalso; first | exact absurd c_17 (by decide) | omega)
      | (refine ri_bipushN h 24 d_Md_point_22 rfl ?_
         refine ri_iload_n h d_Md_point_24 rfl ?_
         first | refine ri_imulN h d_Md_point_25 ?_ | refine ri_imul h d_Md_point_25 ?_
         refine ri_aload_n h d_Md_point_26 rfl ?_
         refine ri_get h d_Md_point_27 fl_Md_23 (by first | assumption | exact hS.mo | exact gup_s) (by rfl) ?_
         refine ri_iload_n h d_Md_point_30 rfl ?_
         refine ri_ialdE h _ d_Md_point_31 (by first | assumption | exact hS.a7) (by first | rfl | assumption) (by first | assumption | omega) (by first | decide | omega) (by first | assumption | exact hm.i7 (by first | assumption | omega) | rfl) ?_
         first | refine ri_iaddN h d_Md_point_32 ?_ | refine ri_iadd h d_Md_point_32 ?_
         refine ri_iconstN h 1 d_Md_point_33 rfl ?_
         first | refine ri_isubN h d_Md_point_34 (by first | omega | exact Nat.le_add_left _ _) ?_ | refine ri_isub h d_Md_point_34 ?_
         refine ri_istore h d_Md_point_35 (Nat.le_of_ble_eq_true rfl) ?_
         refine ri_aload_n h d_Md_point_37 rfl ?_
         refine ri_get h d_Md_point_38 fl_Md_23 (by first | assumption | exact hS.mo | exact gup_s) (by rfl) ?_
         refine ri_iload_n h d_Md_point_41 rfl ?_
         refine ri_ialdE h _ d_Md_point_42 (by first | assumption | exact hS.a7) (by first | rfl | assumption) (by first | assumption | omega) (by first | decide | omega) (by first | assumption | exact hm.i7 (by first | assumption | omega) | rfl) ?_
         first | refine ri_ifN_le h 86 d_Md_point_43 (by decide) (by omega) (fun c_43 => ?_) (fun c_43 => ?_) | refine ri_if_le h 86 d_Md_point_43 (by decide) (fun c_43 => ?_) (fun c_43 => ?_)
         · omega
         · first
           | (exfalso; first | exact absurd c_43 (by decide) | omega)
           | (refine ri_aload_n h d_Md_point_46 rfl ?_
              refine ri_get h d_Md_point_47 fl_Md_30 (by first | assumption | exact hS.mo | exact gup_s) (by rfl) ?_
              refine ri_iload h d_Md_point_50 rfl ?_
              refine ri_laldE h _ d_Md_point_52 (by first | assumption | exact hS.a9) (by first | rfl | assumption) (by first | assumption | omega) (by first | decide | omega) (by first | assumption | exact hm.i9 (by first | assumption | omega) (by first | assumption | omega) | rfl) ?_
              refine ri_lload_n h d_Md_point_53 rfl ?_
              refine ri_lcmp_ne h 62 d_Md_point_54 d_Md_point_55 (by decide) (fun c_54 => ?_) (fun c_54 => ?_)
              · first
                | (exfalso; first | exact absurd c_54 (by decide) | omega)
                | (refine ri_iconstN h 0 d_Md_point_62 rfl ?_
                   refine ri_aload_n h d_Md_point_63 rfl ?_
                   refine ri_get h d_Md_point_64 fl_Md_33 (by first | assumption | exact hS.mo | exact gup_s) (by rfl) ?_
                   refine ri_iload h d_Md_point_67 rfl ?_
                   refine ri_laldE h _ d_Md_point_69 (by first | assumption | exact hS.a10) (by first | rfl | assumption) (by first | assumption | omega) (by first | decide | omega) (by first | assumption | exact hm.i10 (by first | assumption | omega) (by first | assumption | omega) | rfl) ?_
                   refine ri_lload h d_Md_point_70 rfl ?_
                   refine ri_lcmp_ne h 80 d_Md_point_72 d_Md_point_73 (by decide) (fun c_72 => ?_) (fun c_72 => ?_)
                   · first
                     | (exfalso; first | exact absurd c_72 (by decide) | omega)
                     | (refine ri_iconstN h 0 d_Md_point_80 rfl ?_
                        first | refine ri_icmpN_ne h 86 d_Md_point_81 (by decide) (by omega) (by omega) (fun c_81 => ?_) (fun c_81 => ?_) | refine ri_icmp_ne h 86 d_Md_point_81 (by decide) (fun c_81 => ?_) (fun c_81 => ?_)
                        · first
                          | (exfalso; first | exact absurd c_81 (by decide) | omega)
                          | (refine ri_aload_n h d_Md_point_86 rfl ?_
                             refine ri_iload_n h d_Md_point_87 rfl ?_
                             refine ri_lload_n h d_Md_point_88 rfl ?_
                             refine ri_lload h d_Md_point_89 rfl ?_
                             refine ri_dV0_3 (r := (gR6, gT6, 44)) h d_Md_point_91 cv_Md_144 (by first | exact hS.lcO | exact hS.lsO | exact hS.lpO | exact hS.cesO (by first | assumption | omega) | exact hS.cepO (by first | assumption | omega) | exact ⟨_, (by first | assumption | exact hS.st | exact hS.mo | exact hS.out | exact hS.sb | exact hS.ce (by first | assumption | omega) | exact hS.ceb (by first | assumption | omega) | exact hS.sh (by first | assumption | omega) | exact hS.shb (by first | assumption | omega) | exact hS.pl (by first | assumption | omega) | exact hS.plb (by first | assumption | omega) | exact hS.fl (by first | assumption | omega) | exact gup_s | (refine gup_t (by assumption) ?_; first | assumption | exact gup_s | (refine gup_t (by assumption) ?_; first | assumption | exact gup_s | (refine gup_t (by assumption) ?_; first | assumption | exact gup_s))))⟩) rfl (k_madd h0 hS (show s < 120 by omega) hc (hm.i7 hs)) (Nat.le_of_ble_eq_true rfl) (Nat.le_of_ble_eq_true rfl) (Nat.le_of_ble_eq_true rfl) (Nat.le_of_ble_eq_true rfl) (Nat.le_of_ble_eq_true rfl) (fun M hS => ?_)
                             obtain ⟨N', hS, rfl⟩ := hS
                             refine ri_iconstN h 1 d_Md_point_94 rfl ?_
                             refine ri_zreturn h d_Md_point_95 (Nat.le_of_ble_eq_true rfl) (Nat.le_of_ble_eq_true rfl) (by first | rfl | assumption) ?_
                             exact ⟨rfl, _, hS, rfl⟩)
                        · first
                          | (exfalso; first | exact absurd c_81 (by decide) | omega)
                          | (exact absurd (by first | exact ⟨fun _ => c_72, fun _ => c_54⟩ | exact ⟨fun a => absurd a c_54, fun a => absurd a c_72⟩) (e1.mp ht)))
                   · first
                     | (exfalso; first | exact absurd c_72 (by decide) | omega)
                     | (refine ri_iconstN h 1 d_Md_point_76 rfl ?_
                        refine ri_goto h 81 d_Md_point_77 (by decide) ?_
                        first | refine ri_icmpN_ne h 86 d_Md_point_81 (by decide) (by omega) (by omega) (fun c_81 => ?_) (fun c_81 => ?_) | refine ri_icmp_ne h 86 d_Md_point_81 (by decide) (fun c_81 => ?_) (fun c_81 => ?_)
                        · first
                          | (exfalso; first | exact absurd c_81 (by decide) | omega)
                          | (refine ri_aload_n h d_Md_point_86 rfl ?_
                             refine ri_iload_n h d_Md_point_87 rfl ?_
                             refine ri_lload_n h d_Md_point_88 rfl ?_
                             refine ri_lload h d_Md_point_89 rfl ?_
                             refine ri_dV0_3 (r := (gR6, gT6, 44)) h d_Md_point_91 cv_Md_144 (by first | exact hS.lcO | exact hS.lsO | exact hS.lpO | exact hS.cesO (by first | assumption | omega) | exact hS.cepO (by first | assumption | omega) | exact ⟨_, (by first | assumption | exact hS.st | exact hS.mo | exact hS.out | exact hS.sb | exact hS.ce (by first | assumption | omega) | exact hS.ceb (by first | assumption | omega) | exact hS.sh (by first | assumption | omega) | exact hS.shb (by first | assumption | omega) | exact hS.pl (by first | assumption | omega) | exact hS.plb (by first | assumption | omega) | exact hS.fl (by first | assumption | omega) | exact gup_s | (refine gup_t (by assumption) ?_; first | assumption | exact gup_s | (refine gup_t (by assumption) ?_; first | assumption | exact gup_s | (refine gup_t (by assumption) ?_; first | assumption | exact gup_s))))⟩) rfl (k_madd h0 hS (show s < 120 by omega) hc (hm.i7 hs)) (Nat.le_of_ble_eq_true rfl) (Nat.le_of_ble_eq_true rfl) (Nat.le_of_ble_eq_true rfl) (Nat.le_of_ble_eq_true rfl) (Nat.le_of_ble_eq_true rfl) (fun M hS => ?_)
                             obtain ⟨N', hS, rfl⟩ := hS
                             refine ri_iconstN h 1 d_Md_point_94 rfl ?_
                             refine ri_zreturn h d_Md_point_95 (Nat.le_of_ble_eq_true rfl) (Nat.le_of_ble_eq_true rfl) (by first | rfl | assumption) ?_
                             exact ⟨rfl, _, hS, rfl⟩)
                        · first
                          | (exfalso; first | exact absurd c_81 (by decide) | omega)
                          | (exact absurd (by first | exact ⟨fun _ => c_72, fun _ => c_54⟩ | exact ⟨fun a => absurd a c_54, fun a => absurd a c_72⟩) (e1.mp ht))))
              · first
                | (exfalso; first | exact absurd c_54 (by decide) | omega)
                | (refine ri_iconstN h 1 d_Md_point_58 rfl ?_
                   refine ri_goto h 63 d_Md_point_59 (by decide) ?_
                   refine ri_aload_n h d_Md_point_63 rfl ?_
                   refine ri_get h d_Md_point_64 fl_Md_33 (by first | assumption | exact hS.mo | exact gup_s) (by rfl) ?_
                   refine ri_iload h d_Md_point_67 rfl ?_
                   refine ri_laldE h _ d_Md_point_69 (by first | assumption | exact hS.a10) (by first | rfl | assumption) (by first | assumption | omega) (by first | decide | omega) (by first | assumption | exact hm.i10 (by first | assumption | omega) (by first | assumption | omega) | rfl) ?_
                   refine ri_lload h d_Md_point_70 rfl ?_
                   refine ri_lcmp_ne h 80 d_Md_point_72 d_Md_point_73 (by decide) (fun c_72 => ?_) (fun c_72 => ?_)
                   · first
                     | (exfalso; first | exact absurd c_72 (by decide) | omega)
                     | (refine ri_iconstN h 0 d_Md_point_80 rfl ?_
                        first | refine ri_icmpN_ne h 86 d_Md_point_81 (by decide) (by omega) (by omega) (fun c_81 => ?_) (fun c_81 => ?_) | refine ri_icmp_ne h 86 d_Md_point_81 (by decide) (fun c_81 => ?_) (fun c_81 => ?_)
                        · first
                          | (exfalso; first | exact absurd c_81 (by decide) | omega)
                          | (refine ri_aload_n h d_Md_point_86 rfl ?_
                             refine ri_iload_n h d_Md_point_87 rfl ?_
                             refine ri_lload_n h d_Md_point_88 rfl ?_
                             refine ri_lload h d_Md_point_89 rfl ?_
                             refine ri_dV0_3 (r := (gR6, gT6, 44)) h d_Md_point_91 cv_Md_144 (by first | exact hS.lcO | exact hS.lsO | exact hS.lpO | exact hS.cesO (by first | assumption | omega) | exact hS.cepO (by first | assumption | omega) | exact ⟨_, (by first | assumption | exact hS.st | exact hS.mo | exact hS.out | exact hS.sb | exact hS.ce (by first | assumption | omega) | exact hS.ceb (by first | assumption | omega) | exact hS.sh (by first | assumption | omega) | exact hS.shb (by first | assumption | omega) | exact hS.pl (by first | assumption | omega) | exact hS.plb (by first | assumption | omega) | exact hS.fl (by first | assumption | omega) | exact gup_s | (refine gup_t (by assumption) ?_; first | assumption | exact gup_s | (refine gup_t (by assumption) ?_; first | assumption | exact gup_s | (refine gup_t (by assumption) ?_; first | assumption | exact gup_s))))⟩) rfl (k_madd h0 hS (show s < 120 by omega) hc (hm.i7 hs)) (Nat.le_of_ble_eq_true rfl) (Nat.le_of_ble_eq_true rfl) (Nat.le_of_ble_eq_true rfl) (Nat.le_of_ble_eq_true rfl) (Nat.le_of_ble_eq_true rfl) (fun M hS => ?_)
                             obtain ⟨N', hS, rfl⟩ := hS
                             refine ri_iconstN h 1 d_Md_point_94 rfl ?_
                             refine ri_zreturn h d_Md_point_95 (Nat.le_of_ble_eq_true rfl) (Nat.le_of_ble_eq_true rfl) (by first | rfl | assumption) ?_
                             exact ⟨rfl, _, hS, rfl⟩)
                        · first
                          | (exfalso; first | exact absurd c_81 (by decide) | omega)
                          | (exact absurd (by first | exact ⟨fun _ => c_72, fun _ => c_54⟩ | exact ⟨fun a => absurd a c_54, fun a => absurd a c_72⟩) (e1.mp ht)))
                   · first
                     | (exfalso; first | exact absurd c_72 (by decide) | omega)
                     | (refine ri_iconstN h 1 d_Md_point_76 rfl ?_
                        refine ri_goto h 81 d_Md_point_77 (by decide) ?_
                        first | refine ri_icmpN_ne h 86 d_Md_point_81 (by decide) (by omega) (by omega) (fun c_81 => ?_) (fun c_81 => ?_) | refine ri_icmp_ne h 86 d_Md_point_81 (by decide) (fun c_81 => ?_) (fun c_81 => ?_)
                        · first
                          | (exfalso; first | exact absurd c_81 (by decide) | omega)
                          | (refine ri_aload_n h d_Md_point_86 rfl ?_
                             refine ri_iload_n h d_Md_point_87 rfl ?_
                             refine ri_lload_n h d_Md_point_88 rfl ?_
                             refine ri_lload h d_Md_point_89 rfl ?_
                             refine ri_dV0_3 (r := (gR6, gT6, 44)) h d_Md_point_91 cv_Md_144 (by first | exact hS.lcO | exact hS.lsO | exact hS.lpO | exact hS.cesO (by first | assumption | omega) | exact hS.cepO (by first | assumption | omega) | exact ⟨_, (by first | assumption | exact hS.st | exact hS.mo | exact hS.out | exact hS.sb | exact hS.ce (by first | assumption | omega) | exact hS.ceb (by first | assumption | omega) | exact hS.sh (by first | assumption | omega) | exact hS.shb (by first | assumption | omega) | exact hS.pl (by first | assumption | omega) | exact hS.plb (by first | assumption | omega) | exact hS.fl (by first | assumption | omega) | exact gup_s | (refine gup_t (by assumption) ?_; first | assumption | exact gup_s | (refine gup_t (by assumption) ?_; first | assumption | exact gup_s | (refine gup_t (by assumption) ?_; first | assumption | exact gup_s))))⟩) rfl (k_madd h0 hS (show s < 120 by omega) hc (hm.i7 hs)) (Nat.le_of_ble_eq_true rfl) (Nat.le_of_ble_eq_true rfl) (Nat.le_of_ble_eq_true rfl) (Nat.le_of_ble_eq_true rfl) (Nat.le_of_ble_eq_true rfl) (fun M hS => ?_)
                             obtain ⟨N', hS, rfl⟩ := hS
                             refine ri_iconstN h 1 d_Md_point_94 rfl ?_
                             refine ri_zreturn h d_Md_point_95 (Nat.le_of_ble_eq_true rfl) (Nat.le_of_ble_eq_true rfl) (by first | rfl | assumption) ?_
                             exact ⟨rfl, _, hS, rfl⟩)
                        · first
                          | (exfalso; first | exact absurd c_81 (by decide) | omega)
                          | (exact absurd (by first | exact ⟨fun _ => c_72, fun _ => c_54⟩ | exact ⟨fun a => absurd a c_54, fun a => absurd a c_72⟩) (e1.mp ht))))))
    · first
      | (exfalso; first | exact absurd c_17 (by decide) | omega)
      | (refine ri_iconstN h 0 d_Md_point_20 rfl ?_
         refine ri_zreturn h d_Md_point_21 (Nat.le_of_ble_eq_true rfl) (Nat.le_of_ble_eq_true rfl) (by first | rfl | assumption) ?_
         exact ⟨rfl, _, hS, rfl⟩)
theorem k_mpoint_0 (h0 : g_0 l D s0) (hS : HS z ad Qc N M) (hm : MR Q N) (hW : WB Q) {s : Nat} (hs : s < Q.nS) (hd : (Q.sh s).drop = 0) (hp : spath (Q.sh s).w = 1) {x y : Int64} (hc : (Q.sh s).cnt < 24) (hx : nearB x) (hy : nearB y) (ht : ¬ takesB (Q.sh s) x y) : Ct l D s0 y_Md_point (Cond.code y_Md_point b_Md_point 7 (some .boolean)) rkM [.ref (ad 30 0), .int (nI s), .long x, .long y] M (fM z ad Qc (some (.int 0)) (fun N' => N' = N.set_code 0)) := by
  have hb1 := hW.2.1
  have hw : 0 < (Q.sh s).w := by
    by_cases q : 0 < (Q.sh s).w
    · exact q
    · exact absurd hp (by simp [spath, q])
  have h9 : ¬ (Q.sh s).cnt = 0 → N.l 9 (24 * s + (Q.sh s).cnt - 1) = (Q.sh s).xs ((Q.sh s).cnt - 1) := fun q => by rw [show 24 * s + (Q.sh s).cnt - 1 = 24 * s + ((Q.sh s).cnt - 1) by omega]; exact hm.i9 hs (by omega)
  have h10 : ¬ (Q.sh s).cnt = 0 → N.l 10 (24 * s + (Q.sh s).cnt - 1) = (Q.sh s).ys ((Q.sh s).cnt - 1) := fun q => by rw [show 24 * s + (Q.sh s).cnt - 1 = 24 * s + ((Q.sh s).cnt - 1) by omega]; exact hm.i10 hs (by omega)
  refine Ct.of h0 (by decide +kernel) rfl fun X hX h => ?_
  obtain ⟨p_, l', e_, R_, s_, m_, ar_, be_, me_, c_⟩ := X
  obtain rfl : l' = l := hX
  by_cases h1 : (Q.sh s).cnt = 0
  · refine ri_aload_n h d_Md_point_0 rfl ?_
    refine ri_aload_n h d_Md_point_1 rfl ?_
    refine ri_iload_n h d_Md_point_2 rfl ?_
    refine ri_iconstN h 1 d_Md_point_3 rfl ?_
    refine ri_lload_n h d_Md_point_4 rfl ?_
    refine ri_lload h d_Md_point_5 rfl ?_
    refine ri_cVv_4 (r := (gR6, gT6, 44)) h d_Md_point_7 cv_Md_140 (by first | exact hS.lcO | exact hS.lsO | exact hS.lpO | exact hS.cesO (by first | assumption | omega) | exact hS.cepO (by first | assumption | omega) | exact ⟨_, (by first | assumption | exact hS.st | exact hS.mo | exact hS.out | exact hS.sb | exact hS.ce (by first | assumption | omega) | exact hS.ceb (by first | assumption | omega) | exact hS.sh (by first | assumption | omega) | exact hS.shb (by first | assumption | omega) | exact hS.pl (by first | assumption | omega) | exact hS.plb (by first | assumption | omega) | exact hS.fl (by first | assumption | omega) | exact gup_s | (refine gup_t (by assumption) ?_; first | assumption | exact gup_s | (refine gup_t (by assumption) ?_; first | assumption | exact gup_s | (refine gup_t (by assumption) ?_; first | assumption | exact gup_s))))⟩) rfl (k_fault1_0 h0 hS hm hW hs hd hp hc hx hy) (Nat.le_of_ble_eq_true rfl) (Nat.le_of_ble_eq_true rfl) (Nat.le_of_ble_eq_true rfl) (Nat.le_of_ble_eq_true rfl) (Nat.le_of_ble_eq_true rfl) ?_
    exact absurd (Or.inl h1) ht
  · have h9 := h9 h1
    have h10 := h10 h1
    have e1 := tk_p (x := x) (y := y) h1 hw
    refine ri_aload_n h d_Md_point_0 rfl ?_
    refine ri_aload_n h d_Md_point_1 rfl ?_
    refine ri_iload_n h d_Md_point_2 rfl ?_
    refine ri_iconstN h 1 d_Md_point_3 rfl ?_
    refine ri_lload_n h d_Md_point_4 rfl ?_
    refine ri_lload h d_Md_point_5 rfl ?_
    refine ri_cVv_4 (r := (gR6, gT6, 44)) h d_Md_point_7 cv_Md_140 (by first | exact hS.lcO | exact hS.lsO | exact hS.lpO | exact hS.cesO (by first | assumption | omega) | exact hS.cepO (by first | assumption | omega) | exact ⟨_, (by first | assumption | exact hS.st | exact hS.mo | exact hS.out | exact hS.sb | exact hS.ce (by first | assumption | omega) | exact hS.ceb (by first | assumption | omega) | exact hS.sh (by first | assumption | omega) | exact hS.shb (by first | assumption | omega) | exact hS.pl (by first | assumption | omega) | exact hS.plb (by first | assumption | omega) | exact hS.fl (by first | assumption | omega) | exact gup_s | (refine gup_t (by assumption) ?_; first | assumption | exact gup_s | (refine gup_t (by assumption) ?_; first | assumption | exact gup_s | (refine gup_t (by assumption) ?_; first | assumption | exact gup_s))))⟩) rfl (k_fault1_0 h0 hS hm hW hs hd hp hc hx hy) (Nat.le_of_ble_eq_true rfl) (Nat.le_of_ble_eq_true rfl) (Nat.le_of_ble_eq_true rfl) (Nat.le_of_ble_eq_true rfl) (Nat.le_of_ble_eq_true rfl) ?_
    refine ri_pm_code h d_Md_point_10 fl_Md_108 hS (fun M hS => ?_)
    refine ri_aload_n h d_Md_point_13 rfl ?_
    refine ri_get h d_Md_point_14 fl_Md_108 (by first | assumption | exact hS.mo | exact gup_s) (by rfl) ?_
    try dsimp only [MS.code, MS.set_code]
    first | refine ri_ifN_le h 22 d_Md_point_17 (by decide) (by omega) (fun c_17 => ?_) (fun c_17 => ?_) | refine ri_if_le h 22 d_Md_point_17 (by decide) (fun c_17 => ?_) (fun c_17 => ?_)
    · first
      | (exfalso; first | exact absurd c_17 (by decide) | omega)
      | (refine ri_bipushN h 24 d_Md_point_22 rfl ?_
         refine ri_iload_n h d_Md_point_24 rfl ?_
         first | refine ri_imulN h d_Md_point_25 ?_ | refine ri_imul h d_Md_point_25 ?_
         refine ri_aload_n h d_Md_point_26 rfl ?_
         refine ri_get h d_Md_point_27 fl_Md_23 (by first | assumption | exact hS.mo | exact gup_s) (by rfl) ?_
         refine ri_iload_n h d_Md_point_30 rfl ?_
         refine ri_ialdE h _ d_Md_point_31 (by first | assumption | exact hS.a7) (by first | rfl | assumption) (by first | assumption | omega) (by first | decide | omega) (by first | assumption | exact hm.i7 (by first | assumption | omega) | rfl) ?_
         first | refine ri_iaddN h d_Md_point_32 ?_ | refine ri_iadd h d_Md_point_32 ?_
         refine ri_iconstN h 1 d_Md_point_33 rfl ?_
         first | refine ri_isubN h d_Md_point_34 (by first | omega | exact Nat.le_add_left _ _) ?_ | refine ri_isub h d_Md_point_34 ?_
         refine ri_istore h d_Md_point_35 (Nat.le_of_ble_eq_true rfl) ?_
         refine ri_aload_n h d_Md_point_37 rfl ?_
         refine ri_get h d_Md_point_38 fl_Md_23 (by first | assumption | exact hS.mo | exact gup_s) (by rfl) ?_
         refine ri_iload_n h d_Md_point_41 rfl ?_
         refine ri_ialdE h _ d_Md_point_42 (by first | assumption | exact hS.a7) (by first | rfl | assumption) (by first | assumption | omega) (by first | decide | omega) (by first | assumption | exact hm.i7 (by first | assumption | omega) | rfl) ?_
         first | refine ri_ifN_le h 86 d_Md_point_43 (by decide) (by omega) (fun c_43 => ?_) (fun c_43 => ?_) | refine ri_if_le h 86 d_Md_point_43 (by decide) (fun c_43 => ?_) (fun c_43 => ?_)
         · omega
         · first
           | (exfalso; first | exact absurd c_43 (by decide) | omega)
           | (refine ri_aload_n h d_Md_point_46 rfl ?_
              refine ri_get h d_Md_point_47 fl_Md_30 (by first | assumption | exact hS.mo | exact gup_s) (by rfl) ?_
              refine ri_iload h d_Md_point_50 rfl ?_
              refine ri_laldE h _ d_Md_point_52 (by first | assumption | exact hS.a9) (by first | rfl | assumption) (by first | assumption | omega) (by first | decide | omega) (by first | assumption | exact hm.i9 (by first | assumption | omega) (by first | assumption | omega) | rfl) ?_
              refine ri_lload_n h d_Md_point_53 rfl ?_
              refine ri_lcmp_ne h 62 d_Md_point_54 d_Md_point_55 (by decide) (fun c_54 => ?_) (fun c_54 => ?_)
              · first
                | (exfalso; first | exact absurd c_54 (by decide) | omega)
                | (refine ri_iconstN h 0 d_Md_point_62 rfl ?_
                   refine ri_aload_n h d_Md_point_63 rfl ?_
                   refine ri_get h d_Md_point_64 fl_Md_33 (by first | assumption | exact hS.mo | exact gup_s) (by rfl) ?_
                   refine ri_iload h d_Md_point_67 rfl ?_
                   refine ri_laldE h _ d_Md_point_69 (by first | assumption | exact hS.a10) (by first | rfl | assumption) (by first | assumption | omega) (by first | decide | omega) (by first | assumption | exact hm.i10 (by first | assumption | omega) (by first | assumption | omega) | rfl) ?_
                   refine ri_lload h d_Md_point_70 rfl ?_
                   refine ri_lcmp_ne h 80 d_Md_point_72 d_Md_point_73 (by decide) (fun c_72 => ?_) (fun c_72 => ?_)
                   · first
                     | (exfalso; first | exact absurd c_72 (by decide) | omega)
                     | (refine ri_iconstN h 0 d_Md_point_80 rfl ?_
                        first | refine ri_icmpN_ne h 86 d_Md_point_81 (by decide) (by omega) (by omega) (fun c_81 => ?_) (fun c_81 => ?_) | refine ri_icmp_ne h 86 d_Md_point_81 (by decide) (fun c_81 => ?_) (fun c_81 => ?_)
                        · first
                          | (exfalso; first | exact absurd c_81 (by decide) | omega)
                          | (refine ri_aload_n h d_Md_point_86 rfl ?_
                             refine ri_iload_n h d_Md_point_87 rfl ?_
                             refine ri_lload_n h d_Md_point_88 rfl ?_
                             refine ri_lload h d_Md_point_89 rfl ?_
                             exact absurd (e1.mpr (fun q => by first | exact c_72 (q.mp c_54) | exact c_54 (q.mpr c_72))) ht)
                        · first
                          | (exfalso; first | exact absurd c_81 (by decide) | omega)
                          | (refine ri_iconstN h 0 d_Md_point_84 rfl ?_
                             refine ri_zreturn h d_Md_point_85 (Nat.le_of_ble_eq_true rfl) (Nat.le_of_ble_eq_true rfl) (by first | rfl | assumption) ?_
                             exact ⟨rfl, _, hS, rfl⟩))
                   · first
                     | (exfalso; first | exact absurd c_72 (by decide) | omega)
                     | (refine ri_iconstN h 1 d_Md_point_76 rfl ?_
                        refine ri_goto h 81 d_Md_point_77 (by decide) ?_
                        first | refine ri_icmpN_ne h 86 d_Md_point_81 (by decide) (by omega) (by omega) (fun c_81 => ?_) (fun c_81 => ?_) | refine ri_icmp_ne h 86 d_Md_point_81 (by decide) (fun c_81 => ?_) (fun c_81 => ?_)
                        · first
                          | (exfalso; first | exact absurd c_81 (by decide) | omega)
                          | (refine ri_aload_n h d_Md_point_86 rfl ?_
                             refine ri_iload_n h d_Md_point_87 rfl ?_
                             refine ri_lload_n h d_Md_point_88 rfl ?_
                             refine ri_lload h d_Md_point_89 rfl ?_
                             exact absurd (e1.mpr (fun q => by first | exact c_72 (q.mp c_54) | exact c_54 (q.mpr c_72))) ht)
                        · first
                          | (exfalso; first | exact absurd c_81 (by decide) | omega)
                          | (refine ri_iconstN h 0 d_Md_point_84 rfl ?_
                             refine ri_zreturn h d_Md_point_85 (Nat.le_of_ble_eq_true rfl) (Nat.le_of_ble_eq_true rfl) (by first | rfl | assumption) ?_
                             exact ⟨rfl, _, hS, rfl⟩)))
              · first
                | (exfalso; first | exact absurd c_54 (by decide) | omega)
                | (refine ri_iconstN h 1 d_Md_point_58 rfl ?_
                   refine ri_goto h 63 d_Md_point_59 (by decide) ?_
                   refine ri_aload_n h d_Md_point_63 rfl ?_
                   refine ri_get h d_Md_point_64 fl_Md_33 (by first | assumption | exact hS.mo | exact gup_s) (by rfl) ?_
                   refine ri_iload h d_Md_point_67 rfl ?_
                   refine ri_laldE h _ d_Md_point_69 (by first | assumption | exact hS.a10) (by first | rfl | assumption) (by first | assumption | omega) (by first | decide | omega) (by first | assumption | exact hm.i10 (by first | assumption | omega) (by first | assumption | omega) | rfl) ?_
                   refine ri_lload h d_Md_point_70 rfl ?_
                   refine ri_lcmp_ne h 80 d_Md_point_72 d_Md_point_73 (by decide) (fun c_72 => ?_) (fun c_72 => ?_)
                   · first
                     | (exfalso; first | exact absurd c_72 (by decide) | omega)
                     | (refine ri_iconstN h 0 d_Md_point_80 rfl ?_
                        first | refine ri_icmpN_ne h 86 d_Md_point_81 (by decide) (by omega) (by omega) (fun c_81 => ?_) (fun c_81 => ?_) | refine ri_icmp_ne h 86 d_Md_point_81 (by decide) (fun c_81 => ?_) (fun c_81 => ?_)
                        · first
                          | (exfalso; first | exact absurd c_81 (by decide) | omega)
                          | (refine ri_aload_n h d_Md_point_86 rfl ?_
                             refine ri_iload_n h d_Md_point_87 rfl ?_
                             refine ri_lload_n h d_Md_point_88 rfl ?_
                             refine ri_lload h d_Md_point_89 rfl ?_
                             exact absurd (e1.mpr (fun q => by first | exact c_72 (q.mp c_54) | exact c_54 (q.mpr c_72))) ht)
                        · first
                          | (exfalso; first | exact absurd c_81 (by decide) | omega)
                          | (refine ri_iconstN h 0 d_Md_point_84 rfl ?_
                             refine ri_zreturn h d_Md_point_85 (Nat.le_of_ble_eq_true rfl) (Nat.le_of_ble_eq_true rfl) (by first | rfl | assumption) ?_
                             exact ⟨rfl, _, hS, rfl⟩))
                   · first
                     | (exfalso; first | exact absurd c_72 (by decide) | omega)
                     | (refine ri_iconstN h 1 d_Md_point_76 rfl ?_
                        refine ri_goto h 81 d_Md_point_77 (by decide) ?_
                        first | refine ri_icmpN_ne h 86 d_Md_point_81 (by decide) (by omega) (by omega) (fun c_81 => ?_) (fun c_81 => ?_) | refine ri_icmp_ne h 86 d_Md_point_81 (by decide) (fun c_81 => ?_) (fun c_81 => ?_)
                        · first
                          | (exfalso; first | exact absurd c_81 (by decide) | omega)
                          | (refine ri_aload_n h d_Md_point_86 rfl ?_
                             refine ri_iload_n h d_Md_point_87 rfl ?_
                             refine ri_lload_n h d_Md_point_88 rfl ?_
                             refine ri_lload h d_Md_point_89 rfl ?_
                             exact absurd (e1.mpr (fun q => by first | exact c_72 (q.mp c_54) | exact c_54 (q.mpr c_72))) ht)
                        · first
                          | (exfalso; first | exact absurd c_81 (by decide) | omega)
                          | (refine ri_iconstN h 0 d_Md_point_84 rfl ?_
                             refine ri_zreturn h d_Md_point_85 (Nat.le_of_ble_eq_true rfl) (Nat.le_of_ble_eq_true rfl) (by first | rfl | assumption) ?_
                             exact ⟨rfl, _, hS, rfl⟩)))))
    · first
      | (exfalso; first | exact absurd c_17 (by decide) | omega)
      | (refine ri_iconstN h 0 d_Md_point_20 rfl ?_
         refine ri_zreturn h d_Md_point_21 (Nat.le_of_ble_eq_true rfl) (Nat.le_of_ble_eq_true rfl) (by first | rfl | assumption) ?_
         exact ⟨rfl, _, hS, rfl⟩)
theorem k_mdrop_ok (h0 : g_0 l D s0) (hS : HS z ad Qc N M) (hm : MR Q N) (hW : WB Q) {s : Nat} (hs : s < Q.nS) (hd : (Q.sh s).drop = 0) : Ct l D s0 y_Md_drop (Cond.code y_Md_drop b_Md_drop 2 (some .boolean)) rkM [.ref (ad 30 0), .int (nI s)] M (fM z ad Qc (some (.int 1)) (fun N' => N' = (N.set_code 0).set_i (va_up N.i 8 (va_up (N.i 8) s 1)))) := by
  have hb1 := hW.2.1
  have hns := hm.ns
  refine Ct.of h0 (by decide +kernel) rfl fun X hX h => ?_
  obtain ⟨p_, l', e_, R_, s_, m_, ar_, be_, me_, c_⟩ := X
  obtain rfl : l' = l := hX
  refine ri_aload_n h d_Md_drop_0 rfl ?_
  refine ri_iload_n h d_Md_drop_1 rfl ?_
  refine ri_ifM_lt h 13 d_Md_drop_2 (by decide) (by omega) (fun c_2 => ?_) (fun c_2 => ?_)
  · exact c_2.elim
  · first
    | (exfalso; first | exact absurd c_2 (by decide) | first | contradiction | omega)
    | (refine ri_iload_n h d_Md_drop_5 rfl ?_
       refine ri_aload_n h d_Md_drop_6 rfl ?_
       refine ri_get h d_Md_drop_7 fl_Md_118 (by first | assumption | exact hS.mo | exact gup_s) (by rfl) ?_
       first | refine ri_icmpN_lt h 17 d_Md_drop_10 (by decide) (by omega) (by omega) (fun c_10 => ?_) (fun c_10 => ?_) | refine ri_icmp_lt h 17 d_Md_drop_10 (by decide) (fun c_10 => ?_) (fun c_10 => ?_)
       · first
         | (exfalso; first | exact absurd c_10 (by decide) | first | contradiction | omega)
         | (refine ri_iconstN h 0 d_Md_drop_17 rfl ?_
            refine ri_pm_code h d_Md_drop_18 fl_Md_108 hS (fun M hS => ?_)
            refine ri_aload_n h d_Md_drop_21 rfl ?_
            refine ri_get h d_Md_drop_22 fl_Md_108 (by first | assumption | exact hS.mo | exact gup_s) (by rfl) ?_
            try dsimp only [MS.code, MS.set_code]
            first | refine ri_ifN_gt h 37 d_Md_drop_25 (by decide) (by omega) (fun c_25 => ?_) (fun c_25 => ?_) | refine ri_if_gt h 37 d_Md_drop_25 (by decide) (fun c_25 => ?_) (fun c_25 => ?_)
            · first
              | (exfalso; first | exact absurd c_25 (by decide) | first | contradiction | omega)
              | (refine ri_iconstN h 0 d_Md_drop_37 rfl ?_
                 refine ri_zreturn h d_Md_drop_38 (Nat.le_of_ble_eq_true rfl) (Nat.le_of_ble_eq_true rfl) (by first | rfl | assumption) ?_
                 exact ⟨rfl, _, hS, rfl⟩)
            · first
              | (exfalso; first | exact absurd c_25 (by decide) | first | contradiction | omega)
              | (refine ri_aload_n h d_Md_drop_28 rfl ?_
                 refine ri_get h d_Md_drop_29 fl_Md_26 (by first | assumption | exact hS.mo | exact gup_s) (by rfl) ?_
                 refine ri_iload_n h d_Md_drop_32 rfl ?_
                 refine ri_zaldE h _ d_Md_drop_33 (by first | assumption | exact hS.a8) (by first | rfl | assumption) (by first | assumption | omega) (by first | decide | omega) (by first | assumption | exact hm.i8 (by first | assumption | omega) | rfl) ?_
                 refine ri_if_eq h 39 d_Md_drop_34 (by decide) (fun c_34 => ?_) (fun c_34 => ?_)
                 · first
                   | (exfalso; first | exact absurd c_34 (by decide) | first | contradiction | omega)
                   | (refine ri_aload_n h d_Md_drop_39 rfl ?_
                      refine ri_get h d_Md_drop_40 fl_Md_26 (by first | assumption | exact hS.mo | exact gup_s) (by rfl) ?_
                      refine ri_iload_n h d_Md_drop_43 rfl ?_
                      refine ri_iconstN h 1 d_Md_drop_44 rfl ?_
                      refine ri_zast h _ d_Md_drop_45 (by first | assumption | exact hS.a8) (by first | rfl | assumption) (by first | assumption | omega) (by first | decide | omega) (by first | rfl | exact bI_n | assumption) ?_
                      refine ri_gH (hS.set_mb 8 rfl _) (fun M hS => ?_)
                      refine ri_iconstN h 1 d_Md_drop_46 rfl ?_
                      refine ri_zreturn h d_Md_drop_47 (Nat.le_of_ble_eq_true rfl) (Nat.le_of_ble_eq_true rfl) (by first | rfl | assumption) ?_
                      exact ⟨rfl, _, hS, rfl⟩)
                 · first
                   | (exfalso; first | exact absurd c_34 (by decide) | first | contradiction | omega)
                   | (refine ri_iconstN h 0 d_Md_drop_37 rfl ?_
                      refine ri_zreturn h d_Md_drop_38 (Nat.le_of_ble_eq_true rfl) (Nat.le_of_ble_eq_true rfl) (by first | rfl | assumption) ?_
                      exact ⟨rfl, _, hS, rfl⟩)))
       · first
         | (exfalso; first | exact absurd c_10 (by decide) | first | contradiction | omega)
         | (refine ri_iconstN h 1 d_Md_drop_13 rfl ?_
            refine ri_goto h 18 d_Md_drop_14 (by decide) ?_
            refine ri_pm_code h d_Md_drop_18 fl_Md_108 hS (fun M hS => ?_)
            refine ri_aload_n h d_Md_drop_21 rfl ?_
            refine ri_get h d_Md_drop_22 fl_Md_108 (by first | assumption | exact hS.mo | exact gup_s) (by rfl) ?_
            try dsimp only [MS.code, MS.set_code]
            first | refine ri_ifN_gt h 37 d_Md_drop_25 (by decide) (by omega) (fun c_25 => ?_) (fun c_25 => ?_) | refine ri_if_gt h 37 d_Md_drop_25 (by decide) (fun c_25 => ?_) (fun c_25 => ?_)
            · first
              | (exfalso; first | exact absurd c_25 (by decide) | first | contradiction | omega)
              | (refine ri_iconstN h 0 d_Md_drop_37 rfl ?_
                 refine ri_zreturn h d_Md_drop_38 (Nat.le_of_ble_eq_true rfl) (Nat.le_of_ble_eq_true rfl) (by first | rfl | assumption) ?_
                 exact ⟨rfl, _, hS, rfl⟩)
            · first
              | (exfalso; first | exact absurd c_25 (by decide) | first | contradiction | omega)
              | (refine ri_aload_n h d_Md_drop_28 rfl ?_
                 refine ri_get h d_Md_drop_29 fl_Md_26 (by first | assumption | exact hS.mo | exact gup_s) (by rfl) ?_
                 refine ri_iload_n h d_Md_drop_32 rfl ?_
                 refine ri_zaldE h _ d_Md_drop_33 (by first | assumption | exact hS.a8) (by first | rfl | assumption) (by first | assumption | omega) (by first | decide | omega) (by first | assumption | exact hm.i8 (by first | assumption | omega) | rfl) ?_
                 refine ri_if_eq h 39 d_Md_drop_34 (by decide) (fun c_34 => ?_) (fun c_34 => ?_)
                 · first
                   | (exfalso; first | exact absurd c_34 (by decide) | first | contradiction | omega)
                   | (refine ri_aload_n h d_Md_drop_39 rfl ?_
                      refine ri_get h d_Md_drop_40 fl_Md_26 (by first | assumption | exact hS.mo | exact gup_s) (by rfl) ?_
                      refine ri_iload_n h d_Md_drop_43 rfl ?_
                      refine ri_iconstN h 1 d_Md_drop_44 rfl ?_
                      refine ri_zast h _ d_Md_drop_45 (by first | assumption | exact hS.a8) (by first | rfl | assumption) (by first | assumption | omega) (by first | decide | omega) (by first | rfl | exact bI_n | assumption) ?_
                      refine ri_gH (hS.set_mb 8 rfl _) (fun M hS => ?_)
                      refine ri_iconstN h 1 d_Md_drop_46 rfl ?_
                      refine ri_zreturn h d_Md_drop_47 (Nat.le_of_ble_eq_true rfl) (Nat.le_of_ble_eq_true rfl) (by first | rfl | assumption) ?_
                      exact ⟨rfl, _, hS, rfl⟩)
                 · first
                   | (exfalso; first | exact absurd c_34 (by decide) | first | contradiction | omega)
                   | (refine ri_iconstN h 0 d_Md_drop_37 rfl ?_
                      refine ri_zreturn h d_Md_drop_38 (Nat.le_of_ble_eq_true rfl) (Nat.le_of_ble_eq_true rfl) (by first | rfl | assumption) ?_
                      exact ⟨rfl, _, hS, rfl⟩))))
theorem k_mdrop_0 (h0 : g_0 l D s0) (hS : HS z ad Qc N M) (hm : MR Q N) (hW : WB Q) {s : Nat} (hs : s < Q.nS) (hd : (Q.sh s).drop = 1) : Ct l D s0 y_Md_drop (Cond.code y_Md_drop b_Md_drop 2 (some .boolean)) rkM [.ref (ad 30 0), .int (nI s)] M (fM z ad Qc (some (.int 0)) (fun N' => N' = N.set_code 0)) := by
  have hb1 := hW.2.1
  have hns := hm.ns
  have hd0 : ¬ (Q.sh s).drop = 0 := by rw [hd]; decide
  refine Ct.of h0 (by decide +kernel) rfl fun X hX h => ?_
  obtain ⟨p_, l', e_, R_, s_, m_, ar_, be_, me_, c_⟩ := X
  obtain rfl : l' = l := hX
  refine ri_aload_n h d_Md_drop_0 rfl ?_
  refine ri_iload_n h d_Md_drop_1 rfl ?_
  refine ri_ifM_lt h 13 d_Md_drop_2 (by decide) (by omega) (fun c_2 => ?_) (fun c_2 => ?_)
  · exact c_2.elim
  · first
    | (exfalso; first | exact absurd c_2 (by decide) | first | contradiction | omega)
    | (refine ri_iload_n h d_Md_drop_5 rfl ?_
       refine ri_aload_n h d_Md_drop_6 rfl ?_
       refine ri_get h d_Md_drop_7 fl_Md_118 (by first | assumption | exact hS.mo | exact gup_s) (by rfl) ?_
       first | refine ri_icmpN_lt h 17 d_Md_drop_10 (by decide) (by omega) (by omega) (fun c_10 => ?_) (fun c_10 => ?_) | refine ri_icmp_lt h 17 d_Md_drop_10 (by decide) (fun c_10 => ?_) (fun c_10 => ?_)
       · first
         | (exfalso; first | exact absurd c_10 (by decide) | first | contradiction | omega)
         | (refine ri_iconstN h 0 d_Md_drop_17 rfl ?_
            refine ri_pm_code h d_Md_drop_18 fl_Md_108 hS (fun M hS => ?_)
            refine ri_aload_n h d_Md_drop_21 rfl ?_
            refine ri_get h d_Md_drop_22 fl_Md_108 (by first | assumption | exact hS.mo | exact gup_s) (by rfl) ?_
            try dsimp only [MS.code, MS.set_code]
            first | refine ri_ifN_gt h 37 d_Md_drop_25 (by decide) (by omega) (fun c_25 => ?_) (fun c_25 => ?_) | refine ri_if_gt h 37 d_Md_drop_25 (by decide) (fun c_25 => ?_) (fun c_25 => ?_)
            · first
              | (exfalso; first | exact absurd c_25 (by decide) | first | contradiction | omega)
              | (refine ri_iconstN h 0 d_Md_drop_37 rfl ?_
                 refine ri_zreturn h d_Md_drop_38 (Nat.le_of_ble_eq_true rfl) (Nat.le_of_ble_eq_true rfl) (by first | rfl | assumption) ?_
                 exact ⟨rfl, _, hS, rfl⟩)
            · first
              | (exfalso; first | exact absurd c_25 (by decide) | first | contradiction | omega)
              | (refine ri_aload_n h d_Md_drop_28 rfl ?_
                 refine ri_get h d_Md_drop_29 fl_Md_26 (by first | assumption | exact hS.mo | exact gup_s) (by rfl) ?_
                 refine ri_iload_n h d_Md_drop_32 rfl ?_
                 refine ri_zaldE h _ d_Md_drop_33 (by first | assumption | exact hS.a8) (by first | rfl | assumption) (by first | assumption | omega) (by first | decide | omega) (by first | assumption | exact hm.i8 (by first | assumption | omega) | rfl) ?_
                 refine ri_if_eq h 39 d_Md_drop_34 (by decide) (fun c_34 => ?_) (fun c_34 => ?_)
                 · first
                   | (exfalso; first | exact absurd c_34 (by decide) | first | contradiction | omega)
                   | (refine ri_aload_n h d_Md_drop_39 rfl ?_
                      refine ri_get h d_Md_drop_40 fl_Md_26 (by first | assumption | exact hS.mo | exact gup_s) (by rfl) ?_
                      refine ri_iload_n h d_Md_drop_43 rfl ?_
                      refine ri_iconstN h 1 d_Md_drop_44 rfl ?_
                      refine ri_zast h _ d_Md_drop_45 (by first | assumption | exact hS.a8) (by first | rfl | assumption) (by first | assumption | omega) (by first | decide | omega) (by first | rfl | exact bI_n | assumption) ?_
                      refine ri_gH (hS.set_mb 8 rfl _) (fun M hS => ?_)
                      refine ri_iconstN h 1 d_Md_drop_46 rfl ?_
                      refine ri_zreturn h d_Md_drop_47 (Nat.le_of_ble_eq_true rfl) (Nat.le_of_ble_eq_true rfl) (by first | rfl | assumption) ?_
                      exact ⟨rfl, _, hS, rfl⟩)
                 · first
                   | (exfalso; first | exact absurd c_34 (by decide) | first | contradiction | omega)
                   | (refine ri_iconstN h 0 d_Md_drop_37 rfl ?_
                      refine ri_zreturn h d_Md_drop_38 (Nat.le_of_ble_eq_true rfl) (Nat.le_of_ble_eq_true rfl) (by first | rfl | assumption) ?_
                      exact ⟨rfl, _, hS, rfl⟩)))
       · first
         | (exfalso; first | exact absurd c_10 (by decide) | first | contradiction | omega)
         | (refine ri_iconstN h 1 d_Md_drop_13 rfl ?_
            refine ri_goto h 18 d_Md_drop_14 (by decide) ?_
            refine ri_pm_code h d_Md_drop_18 fl_Md_108 hS (fun M hS => ?_)
            refine ri_aload_n h d_Md_drop_21 rfl ?_
            refine ri_get h d_Md_drop_22 fl_Md_108 (by first | assumption | exact hS.mo | exact gup_s) (by rfl) ?_
            try dsimp only [MS.code, MS.set_code]
            first | refine ri_ifN_gt h 37 d_Md_drop_25 (by decide) (by omega) (fun c_25 => ?_) (fun c_25 => ?_) | refine ri_if_gt h 37 d_Md_drop_25 (by decide) (fun c_25 => ?_) (fun c_25 => ?_)
            · first
              | (exfalso; first | exact absurd c_25 (by decide) | first | contradiction | omega)
              | (refine ri_iconstN h 0 d_Md_drop_37 rfl ?_
                 refine ri_zreturn h d_Md_drop_38 (Nat.le_of_ble_eq_true rfl) (Nat.le_of_ble_eq_true rfl) (by first | rfl | assumption) ?_
                 exact ⟨rfl, _, hS, rfl⟩)
            · first
              | (exfalso; first | exact absurd c_25 (by decide) | first | contradiction | omega)
              | (refine ri_aload_n h d_Md_drop_28 rfl ?_
                 refine ri_get h d_Md_drop_29 fl_Md_26 (by first | assumption | exact hS.mo | exact gup_s) (by rfl) ?_
                 refine ri_iload_n h d_Md_drop_32 rfl ?_
                 refine ri_zaldE h _ d_Md_drop_33 (by first | assumption | exact hS.a8) (by first | rfl | assumption) (by first | assumption | omega) (by first | decide | omega) (by first | assumption | exact hm.i8 (by first | assumption | omega) | rfl) ?_
                 refine ri_if_eq h 39 d_Md_drop_34 (by decide) (fun c_34 => ?_) (fun c_34 => ?_)
                 · first
                   | (exfalso; first | exact absurd c_34 (by decide) | first | contradiction | omega)
                   | (refine ri_aload_n h d_Md_drop_39 rfl ?_
                      refine ri_get h d_Md_drop_40 fl_Md_26 (by first | assumption | exact hS.mo | exact gup_s) (by rfl) ?_
                      refine ri_iload_n h d_Md_drop_43 rfl ?_
                      refine ri_iconstN h 1 d_Md_drop_44 rfl ?_
                      refine ri_zast h _ d_Md_drop_45 (by first | assumption | exact hS.a8) (by first | rfl | assumption) (by first | assumption | omega) (by first | decide | omega) (by first | rfl | exact bI_n | assumption) ?_
                      refine ri_gH (hS.set_mb 8 rfl _) (fun M hS => ?_)
                      refine ri_iconstN h 1 d_Md_drop_46 rfl ?_
                      refine ri_zreturn h d_Md_drop_47 (Nat.le_of_ble_eq_true rfl) (Nat.le_of_ble_eq_true rfl) (by first | rfl | assumption) ?_
                      exact ⟨rfl, _, hS, rfl⟩)
                 · first
                   | (exfalso; first | exact absurd c_34 (by decide) | first | contradiction | omega)
                   | (refine ri_iconstN h 0 d_Md_drop_37 rfl ?_
                      refine ri_zreturn h d_Md_drop_38 (Nat.le_of_ble_eq_true rfl) (Nat.le_of_ble_eq_true rfl) (by first | rfl | assumption) ?_
                      exact ⟨rfl, _, hS, rfl⟩))))
theorem k_mdrop_no (h0 : g_0 l D s0) (hS : HS z ad Qc N M) (hm : MR Q N) (hW : WB Q) {p : Int32} (hp : ¬ ∃ c, c < Q.nS ∧ p = nI c) : Ct l D s0 y_Md_drop (Cond.code y_Md_drop b_Md_drop 2 (some .boolean)) rkM [.ref (ad 30 0), .int p] M (fM z ad Qc (some (.int 0)) (fun N' => N' = N.set_code 1)) := by
  have hb1 := hW.2.1
  have hns := hm.ns
  refine Ct.of h0 (by decide +kernel) rfl fun X hX h => ?_
  obtain ⟨p_, l', e_, R_, s_, m_, ar_, be_, me_, c_⟩ := X
  obtain rfl : l' = l := hX
  refine ri_aload_n h d_Md_drop_0 rfl ?_
  refine ri_iload_n h d_Md_drop_1 rfl ?_
  refine ri_if_lt h 13 d_Md_drop_2 (by decide) (fun c_2 => ?_) (fun c_2 => ?_)
  · first
    | (exfalso; first | exact absurd c_2 (by decide) | first | contradiction | omega)
    | (refine ri_iconstN h 1 d_Md_drop_13 rfl ?_
       refine ri_goto h 18 d_Md_drop_14 (by decide) ?_
       refine ri_pm_code h d_Md_drop_18 fl_Md_108 hS (fun M hS => ?_)
       refine ri_aload_n h d_Md_drop_21 rfl ?_
       refine ri_get h d_Md_drop_22 fl_Md_108 (by first | assumption | exact hS.mo | exact gup_s) (by rfl) ?_
       try dsimp only [MS.code, MS.set_code]
       first | refine ri_ifN_gt h 37 d_Md_drop_25 (by decide) (by omega) (fun c_25 => ?_) (fun c_25 => ?_) | refine ri_if_gt h 37 d_Md_drop_25 (by decide) (fun c_25 => ?_) (fun c_25 => ?_)
       · first
         | (exfalso; first | exact absurd c_25 (by decide) | first | contradiction | omega)
         | (refine ri_iconstN h 0 d_Md_drop_37 rfl ?_
            refine ri_zreturn h d_Md_drop_38 (Nat.le_of_ble_eq_true rfl) (Nat.le_of_ble_eq_true rfl) (by first | rfl | assumption) ?_
            exact ⟨rfl, _, hS, rfl⟩)
       · first
         | (exfalso; first | exact absurd c_25 (by decide) | first | contradiction | omega)
         | (omega))
  · first
    | (exfalso; first | exact absurd c_2 (by decide) | first | contradiction | omega)
    | (refine ri_iload_n h d_Md_drop_5 rfl ?_
       refine ri_aload_n h d_Md_drop_6 rfl ?_
       refine ri_get h d_Md_drop_7 fl_Md_118 (by first | assumption | exact hS.mo | exact gup_s) (by rfl) ?_
       refine ri_icmp_lt h 17 d_Md_drop_10 (by decide) (fun c_10 => ?_) (fun c_10 => ?_)
       · first
         | (exfalso; first | exact absurd c_10 (by decide) | first | contradiction | omega)
         | (exact absurd (ix_of (by omega) c_2 (hns ▸ c_10)) hp)
       · first
         | (exfalso; first | exact absurd c_10 (by decide) | first | contradiction | omega)
         | (refine ri_iconstN h 1 d_Md_drop_13 rfl ?_
            refine ri_goto h 18 d_Md_drop_14 (by decide) ?_
            refine ri_pm_code h d_Md_drop_18 fl_Md_108 hS (fun M hS => ?_)
            refine ri_aload_n h d_Md_drop_21 rfl ?_
            refine ri_get h d_Md_drop_22 fl_Md_108 (by first | assumption | exact hS.mo | exact gup_s) (by rfl) ?_
            try dsimp only [MS.code, MS.set_code]
            first | refine ri_ifN_gt h 37 d_Md_drop_25 (by decide) (by omega) (fun c_25 => ?_) (fun c_25 => ?_) | refine ri_if_gt h 37 d_Md_drop_25 (by decide) (fun c_25 => ?_) (fun c_25 => ?_)
            · first
              | (exfalso; first | exact absurd c_25 (by decide) | first | contradiction | omega)
              | (refine ri_iconstN h 0 d_Md_drop_37 rfl ?_
                 refine ri_zreturn h d_Md_drop_38 (Nat.le_of_ble_eq_true rfl) (Nat.le_of_ble_eq_true rfl) (by first | rfl | assumption) ?_
                 exact ⟨rfl, _, hS, rfl⟩)
            · first
              | (exfalso; first | exact absurd c_25 (by decide) | first | contradiction | omega)
              | (omega)))
theorem MR.drop (hm : MR Q N) (hF : WFl Q.nS Q.sh (Q.fl 0)) (k : Nat) {s : Nat} (hs : s < Q.nS) : MR (Q.set_sh (va_up Q.sh s ((Q.sh s).set_drop 1))) ((N.set_code k).set_i (va_up N.i 8 (va_up (N.i 8) s 1))) := by
  refine ⟨hm.la, hm.nc, hm.ns, hm.np, ?_, ?_, hm.2.2.2.2.2.2.1, hm.ha, ?_⟩
  · intro t ht
    have ht : t < Q.nS := ht
    show N.i 3 t = nI (va_up Q.sh s ((Q.sh s).set_drop 1) t).cell ∧ N.i 4 t = (va_up Q.sh s ((Q.sh s).set_drop 1) t).layer ∧ N.l 5 t = (va_up Q.sh s ((Q.sh s).set_drop 1) t).w ∧ N.i 6 t = (va_up Q.sh s ((Q.sh s).set_drop 1) t).ends ∧ N.i 7 t = nI (va_up Q.sh s ((Q.sh s).set_drop 1) t).cnt ∧ va_up (N.i 8) s 1 t = (va_up Q.sh s ((Q.sh s).set_drop 1) t).drop ∧ ∀ k, k < (va_up Q.sh s ((Q.sh s).set_drop 1) t).cnt → N.l 9 (24 * t + k) = (va_up Q.sh s ((Q.sh s).set_drop 1) t).xs k ∧ N.l 10 (24 * t + k) = (va_up Q.sh s ((Q.sh s).set_drop 1) t).ys k
    by_cases q : t = s
    · subst q
      simp only [va_up_s]
      exact ⟨hm.i3 ht, hm.i4 ht, hm.i5 ht, hm.i6 ht, hm.i7 ht, trivial, fun k hk => ⟨hm.i9 ht hk, hm.i10 ht hk⟩⟩
    · simp only [va_up_n q]
      exact hm.shs ht
  · intro t ht
    have ht : Q.nS ≤ t := ht
    show va_up (N.i 8) s 1 t = 0
    rw [va_up_n (by omega)]
    exact hm.g8 ht
  · intro i hi
    refine ⟨hm.i25 hi, fun k hk => ?_⟩
    have e : (va_up Q.sh s ((Q.sh s).set_drop 1) ((Q.fl 0).s i)).xs k = (Q.sh ((Q.fl 0).s i)).xs k ∧ (va_up Q.sh s ((Q.sh s).set_drop 1) ((Q.fl 0).s i)).ys k = (Q.sh ((Q.fl 0).s i)).ys k := by
      by_cases q : (Q.fl 0).s i = s
      · rw [q, va_up_s]
        exact ⟨rfl, rfl⟩
      · rw [va_up_n q]
        exact ⟨rfl, rfl⟩
    have e2 := FX_cong (r := Q.fl 0) e.1 e.2
    exact ⟨(hm.i22 hi hk).trans e2.1, (hm.i23 hi hk).trans e2.2⟩
abbrev arN (N : MS) (p : Nat) (a b : Int32) (u v : Int64) : MS := (((N.set_i (va_up N.i 17 (va_up (N.i 17) p a))).set_i (va_up (va_up N.i 17 (va_up (N.i 17) p a)) 18 (va_up (N.i 18) p b))).set_l (va_up N.l 19 (va_up (N.l 19) p u))).set_l (va_up (va_up N.l 19 (va_up (N.l 19) p u)) 20 (va_up (N.l 20) p v))
theorem MR.array (hm : MR Q N) (k : Nat) {p a b : Nat} {u v : Int64} : MR (Q.set_pl (va_up Q.pl p (((((Q.pl p).set_cols a).set_rows b).set_dx u).set_dy v))) (arN (N.set_code k) p (nI a) (nI b) u v) := by
  refine ⟨hm.la, hm.nc, hm.ns, hm.np, hm.2.2.2.2.1, hm.2.2.2.2.2.1, ?_, hm.ha, hm.2.2.2.2.2.2.2.2⟩
  intro t ht
  have ht : t < Q.nP := ht
  have := hm.pls ht
  show N.i 12 t = nI (va_up Q.pl p _ t).cell ∧ N.i 13 t = nI (va_up Q.pl p _ t).of ∧ N.l 14 t = (va_up Q.pl p _ t).x ∧ N.l 15 t = (va_up Q.pl p _ t).y ∧ N.i 16 t = nI (va_up Q.pl p _ t).turn ∧ va_up (N.i 17) p (nI a) t = nI (va_up Q.pl p _ t).cols ∧ va_up (N.i 18) p (nI b) t = nI (va_up Q.pl p _ t).rows ∧ va_up (N.l 19) p u t = (va_up Q.pl p _ t).dx ∧ va_up (N.l 20) p v t = (va_up Q.pl p _ t).dy
  by_cases q : t = p
  · subst q
    simp only [va_up_s]
    exact ⟨this.1, this.2.1, this.2.2.1, this.2.2.2.1, this.2.2.2.2.1, trivial, trivial, trivial, trivial⟩
  · simp only [va_up_n q]
    exact this
theorem k_marray_ok (h0 : g_0 l D s0) (hS : HS z ad Qc N M) (hm : MR Q N) (hW : WB Q) {p : Nat} (hp : p < Q.nP) {a b : Nat} (ha : 1 ≤ a ∧ a ≤ 20) (hb : 1 ≤ b ∧ b ≤ 20) {u v : Int64} (hu : nearB u) (hv : nearB v) : Ct l D s0 y_Md_array (Cond.code y_Md_array b_Md_array 8 (some .int)) rkM [.ref (ad 30 0), .int (nI p), .int (nI a), .int (nI b), .long u, .long v] M (fM z ad Qc (some (.int (nI (a * b)))) (fun N' => N' = arN (N.set_code 0) p (nI a) (nI b) u v)) := by
  have hb1 := hW.2.2.1
  have hnp := hm.np
  refine Ct.of h0 (by decide +kernel) rfl fun X hX h => ?_
  obtain ⟨p_, l', e_, R_, s_, m_, ar_, be_, me_, c_⟩ := X
  obtain rfl : l' = l := hX
  refine ri_aload_n h d_Md_array_0 rfl ?_
  refine ri_iload_n h d_Md_array_1 rfl ?_
  refine ri_ifM_lt h 13 d_Md_array_2 (by decide) (by omega) (fun c_2 => ?_) (fun c_2 => ?_)
  · exact c_2.elim
  · first
    | (exfalso; first | exact absurd c_2 (by decide) | first | contradiction | omega)
    | (refine ri_iload_n h d_Md_array_5 rfl ?_
       refine ri_aload_n h d_Md_array_6 rfl ?_
       refine ri_get h d_Md_array_7 fl_Md_148 (by first | assumption | exact hS.mo | exact gup_s) (by rfl) ?_
       first | refine ri_icmpN_lt h 17 d_Md_array_10 (by decide) (by omega) (by omega) (fun c_10 => ?_) (fun c_10 => ?_) | refine ri_icmp_lt h 17 d_Md_array_10 (by decide) (fun c_10 => ?_) (fun c_10 => ?_)
       · first
         | (exfalso; first | exact absurd c_10 (by decide) | first | contradiction | omega)
         | (refine ri_iload_n h d_Md_array_17 rfl ?_
            refine ri_iconstN h 1 d_Md_array_18 rfl ?_
            first | refine ri_icmpN_lt h 55 d_Md_array_19 (by decide) (by omega) (by omega) (fun c_19 => ?_) (fun c_19 => ?_) | refine ri_icmp_lt h 55 d_Md_array_19 (by decide) (fun c_19 => ?_) (fun c_19 => ?_)
            · first
              | (exfalso; first | exact absurd c_19 (by decide) | first | contradiction | omega)
              | (refine ri_iconstN h 2 d_Md_array_55 rfl ?_
                 refine ri_goto h 60 d_Md_array_56 (by decide) ?_
                 refine ri_pm_code h d_Md_array_60 fl_Md_108 hS (fun M hS => ?_)
                 refine ri_aload_n h d_Md_array_63 rfl ?_
                 refine ri_get h d_Md_array_64 fl_Md_108 (by first | assumption | exact hS.mo | exact gup_s) (by rfl) ?_
                 try dsimp only [MS.code, MS.set_code]
                 first | refine ri_ifN_le h 72 d_Md_array_67 (by decide) (by omega) (fun c_67 => ?_) (fun c_67 => ?_) | refine ri_if_le h 72 d_Md_array_67 (by decide) (fun c_67 => ?_) (fun c_67 => ?_)
                 · first
                   | (exfalso; first | exact absurd c_67 (by decide) | first | contradiction | omega)
                   | (refine ri_aload_n h d_Md_array_72 rfl ?_
                      refine ri_get h d_Md_array_73 fl_Md_51 (by first | assumption | exact hS.mo | exact gup_s) (by rfl) ?_
                      refine ri_iload_n h d_Md_array_76 rfl ?_
                      refine ri_iload_n h d_Md_array_77 rfl ?_
                      refine ri_iast h _ d_Md_array_78 (by first | assumption | exact hS.a17) (by first | rfl | assumption) (by first | assumption | omega) (by first | decide | omega) ?_
                      refine ri_gH (hS.set_mi 17 rfl _) (fun M hS => ?_)
                      refine ri_aload_n h d_Md_array_79 rfl ?_
                      refine ri_get h d_Md_array_80 fl_Md_54 (by first | assumption | exact hS.mo | exact gup_s) (by rfl) ?_
                      refine ri_iload_n h d_Md_array_83 rfl ?_
                      refine ri_iload_n h d_Md_array_84 rfl ?_
                      refine ri_iast h _ d_Md_array_85 (by first | assumption | exact hS.a18) (by first | rfl | assumption) (by first | assumption | omega) (by first | decide | omega) ?_
                      refine ri_gH (hS.set_mi 18 rfl _) (fun M hS => ?_)
                      refine ri_aload_n h d_Md_array_86 rfl ?_
                      refine ri_get h d_Md_array_87 fl_Md_57 (by first | assumption | exact hS.mo | exact gup_s) (by rfl) ?_
                      refine ri_iload_n h d_Md_array_90 rfl ?_
                      refine ri_lload h d_Md_array_91 rfl ?_
                      refine ri_last h _ d_Md_array_93 (by first | assumption | exact hS.a19) (by first | rfl | assumption) (by first | assumption | omega) (by first | decide | omega) ?_
                      refine ri_gH (hS.set_ml 19 rfl _) (fun M hS => ?_)
                      refine ri_aload_n h d_Md_array_94 rfl ?_
                      refine ri_get h d_Md_array_95 fl_Md_60 (by first | assumption | exact hS.mo | exact gup_s) (by rfl) ?_
                      refine ri_iload_n h d_Md_array_98 rfl ?_
                      refine ri_lload h d_Md_array_99 rfl ?_
                      refine ri_last h _ d_Md_array_101 (by first | assumption | exact hS.a20) (by first | rfl | assumption) (by first | assumption | omega) (by first | decide | omega) ?_
                      refine ri_gH (hS.set_ml 20 rfl _) (fun M hS => ?_)
                      refine ri_iload_n h d_Md_array_102 rfl ?_
                      refine ri_iload_n h d_Md_array_103 rfl ?_
                      first | refine ri_imulN h d_Md_array_104 ?_ | refine ri_imul h d_Md_array_104 ?_
                      refine ri_ireturn h d_Md_array_105 (Nat.le_of_ble_eq_true rfl) (Nat.le_of_ble_eq_true rfl) ?_
                      exact ⟨rfl, _, hS, rfl⟩)
                 · first
                   | (exfalso; first | exact absurd c_67 (by decide) | first | contradiction | omega)
                   | (refine ri_iconstN h 0 d_Md_array_70 rfl ?_
                      refine ri_ireturn h d_Md_array_71 (Nat.le_of_ble_eq_true rfl) (Nat.le_of_ble_eq_true rfl) ?_
                      exact ⟨rfl, _, hS, rfl⟩))
            · first
              | (exfalso; first | exact absurd c_19 (by decide) | first | contradiction | omega)
              | (refine ri_iload_n h d_Md_array_22 rfl ?_
                 refine ri_bipushN h 20 d_Md_array_23 rfl ?_
                 first | refine ri_icmpN_gt h 55 d_Md_array_25 (by decide) (by omega) (by omega) (fun c_25 => ?_) (fun c_25 => ?_) | refine ri_icmp_gt h 55 d_Md_array_25 (by decide) (fun c_25 => ?_) (fun c_25 => ?_)
                 · first
                   | (exfalso; first | exact absurd c_25 (by decide) | first | contradiction | omega)
                   | (refine ri_iconstN h 2 d_Md_array_55 rfl ?_
                      refine ri_goto h 60 d_Md_array_56 (by decide) ?_
                      refine ri_pm_code h d_Md_array_60 fl_Md_108 hS (fun M hS => ?_)
                      refine ri_aload_n h d_Md_array_63 rfl ?_
                      refine ri_get h d_Md_array_64 fl_Md_108 (by first | assumption | exact hS.mo | exact gup_s) (by rfl) ?_
                      try dsimp only [MS.code, MS.set_code]
                      first | refine ri_ifN_le h 72 d_Md_array_67 (by decide) (by omega) (fun c_67 => ?_) (fun c_67 => ?_) | refine ri_if_le h 72 d_Md_array_67 (by decide) (fun c_67 => ?_) (fun c_67 => ?_)
                      · first
                        | (exfalso; first | exact absurd c_67 (by decide) | first | contradiction | omega)
                        | (refine ri_aload_n h d_Md_array_72 rfl ?_
                           refine ri_get h d_Md_array_73 fl_Md_51 (by first | assumption | exact hS.mo | exact gup_s) (by rfl) ?_
                           refine ri_iload_n h d_Md_array_76 rfl ?_
                           refine ri_iload_n h d_Md_array_77 rfl ?_
                           refine ri_iast h _ d_Md_array_78 (by first | assumption | exact hS.a17) (by first | rfl | assumption) (by first | assumption | omega) (by first | decide | omega) ?_
                           refine ri_gH (hS.set_mi 17 rfl _) (fun M hS => ?_)
                           refine ri_aload_n h d_Md_array_79 rfl ?_
                           refine ri_get h d_Md_array_80 fl_Md_54 (by first | assumption | exact hS.mo | exact gup_s) (by rfl) ?_
                           refine ri_iload_n h d_Md_array_83 rfl ?_
                           refine ri_iload_n h d_Md_array_84 rfl ?_
                           refine ri_iast h _ d_Md_array_85 (by first | assumption | exact hS.a18) (by first | rfl | assumption) (by first | assumption | omega) (by first | decide | omega) ?_
                           refine ri_gH (hS.set_mi 18 rfl _) (fun M hS => ?_)
                           refine ri_aload_n h d_Md_array_86 rfl ?_
                           refine ri_get h d_Md_array_87 fl_Md_57 (by first | assumption | exact hS.mo | exact gup_s) (by rfl) ?_
                           refine ri_iload_n h d_Md_array_90 rfl ?_
                           refine ri_lload h d_Md_array_91 rfl ?_
                           refine ri_last h _ d_Md_array_93 (by first | assumption | exact hS.a19) (by first | rfl | assumption) (by first | assumption | omega) (by first | decide | omega) ?_
                           refine ri_gH (hS.set_ml 19 rfl _) (fun M hS => ?_)
                           refine ri_aload_n h d_Md_array_94 rfl ?_
                           refine ri_get h d_Md_array_95 fl_Md_60 (by first | assumption | exact hS.mo | exact gup_s) (by rfl) ?_
                           refine ri_iload_n h d_Md_array_98 rfl ?_
                           refine ri_lload h d_Md_array_99 rfl ?_
                           refine ri_last h _ d_Md_array_101 (by first | assumption | exact hS.a20) (by first | rfl | assumption) (by first | assumption | omega) (by first | decide | omega) ?_
                           refine ri_gH (hS.set_ml 20 rfl _) (fun M hS => ?_)
                           refine ri_iload_n h d_Md_array_102 rfl ?_
                           refine ri_iload_n h d_Md_array_103 rfl ?_
                           first | refine ri_imulN h d_Md_array_104 ?_ | refine ri_imul h d_Md_array_104 ?_
                           refine ri_ireturn h d_Md_array_105 (Nat.le_of_ble_eq_true rfl) (Nat.le_of_ble_eq_true rfl) ?_
                           exact ⟨rfl, _, hS, rfl⟩)
                      · first
                        | (exfalso; first | exact absurd c_67 (by decide) | first | contradiction | omega)
                        | (refine ri_iconstN h 0 d_Md_array_70 rfl ?_
                           refine ri_ireturn h d_Md_array_71 (Nat.le_of_ble_eq_true rfl) (Nat.le_of_ble_eq_true rfl) ?_
                           exact ⟨rfl, _, hS, rfl⟩))
                 · first
                   | (exfalso; first | exact absurd c_25 (by decide) | first | contradiction | omega)
                   | (refine ri_iload_n h d_Md_array_28 rfl ?_
                      refine ri_iconstN h 1 d_Md_array_29 rfl ?_
                      first | refine ri_icmpN_lt h 55 d_Md_array_30 (by decide) (by omega) (by omega) (fun c_30 => ?_) (fun c_30 => ?_) | refine ri_icmp_lt h 55 d_Md_array_30 (by decide) (fun c_30 => ?_) (fun c_30 => ?_)
                      · first
                        | (exfalso; first | exact absurd c_30 (by decide) | first | contradiction | omega)
                        | (refine ri_iconstN h 2 d_Md_array_55 rfl ?_
                           refine ri_goto h 60 d_Md_array_56 (by decide) ?_
                           refine ri_pm_code h d_Md_array_60 fl_Md_108 hS (fun M hS => ?_)
                           refine ri_aload_n h d_Md_array_63 rfl ?_
                           refine ri_get h d_Md_array_64 fl_Md_108 (by first | assumption | exact hS.mo | exact gup_s) (by rfl) ?_
                           try dsimp only [MS.code, MS.set_code]
                           first | refine ri_ifN_le h 72 d_Md_array_67 (by decide) (by omega) (fun c_67 => ?_) (fun c_67 => ?_) | refine ri_if_le h 72 d_Md_array_67 (by decide) (fun c_67 => ?_) (fun c_67 => ?_)
                           · first
                             | (exfalso; first | exact absurd c_67 (by decide) | first | contradiction | omega)
                             | (refine ri_aload_n h d_Md_array_72 rfl ?_
                                refine ri_get h d_Md_array_73 fl_Md_51 (by first | assumption | exact hS.mo | exact gup_s) (by rfl) ?_
                                refine ri_iload_n h d_Md_array_76 rfl ?_
                                refine ri_iload_n h d_Md_array_77 rfl ?_
                                refine ri_iast h _ d_Md_array_78 (by first | assumption | exact hS.a17) (by first | rfl | assumption) (by first | assumption | omega) (by first | decide | omega) ?_
                                refine ri_gH (hS.set_mi 17 rfl _) (fun M hS => ?_)
                                refine ri_aload_n h d_Md_array_79 rfl ?_
                                refine ri_get h d_Md_array_80 fl_Md_54 (by first | assumption | exact hS.mo | exact gup_s) (by rfl) ?_
                                refine ri_iload_n h d_Md_array_83 rfl ?_
                                refine ri_iload_n h d_Md_array_84 rfl ?_
                                refine ri_iast h _ d_Md_array_85 (by first | assumption | exact hS.a18) (by first | rfl | assumption) (by first | assumption | omega) (by first | decide | omega) ?_
                                refine ri_gH (hS.set_mi 18 rfl _) (fun M hS => ?_)
                                refine ri_aload_n h d_Md_array_86 rfl ?_
                                refine ri_get h d_Md_array_87 fl_Md_57 (by first | assumption | exact hS.mo | exact gup_s) (by rfl) ?_
                                refine ri_iload_n h d_Md_array_90 rfl ?_
                                refine ri_lload h d_Md_array_91 rfl ?_
                                refine ri_last h _ d_Md_array_93 (by first | assumption | exact hS.a19) (by first | rfl | assumption) (by first | assumption | omega) (by first | decide | omega) ?_
                                refine ri_gH (hS.set_ml 19 rfl _) (fun M hS => ?_)
                                refine ri_aload_n h d_Md_array_94 rfl ?_
                                refine ri_get h d_Md_array_95 fl_Md_60 (by first | assumption | exact hS.mo | exact gup_s) (by rfl) ?_
                                refine ri_iload_n h d_Md_array_98 rfl ?_
                                refine ri_lload h d_Md_array_99 rfl ?_
                                refine ri_last h _ d_Md_array_101 (by first | assumption | exact hS.a20) (by first | rfl | assumption) (by first | assumption | omega) (by first | decide | omega) ?_
                                refine ri_gH (hS.set_ml 20 rfl _) (fun M hS => ?_)
                                refine ri_iload_n h d_Md_array_102 rfl ?_
                                refine ri_iload_n h d_Md_array_103 rfl ?_
                                first | refine ri_imulN h d_Md_array_104 ?_ | refine ri_imul h d_Md_array_104 ?_
                                refine ri_ireturn h d_Md_array_105 (Nat.le_of_ble_eq_true rfl) (Nat.le_of_ble_eq_true rfl) ?_
                                exact ⟨rfl, _, hS, rfl⟩)
                           · first
                             | (exfalso; first | exact absurd c_67 (by decide) | first | contradiction | omega)
                             | (refine ri_iconstN h 0 d_Md_array_70 rfl ?_
                                refine ri_ireturn h d_Md_array_71 (Nat.le_of_ble_eq_true rfl) (Nat.le_of_ble_eq_true rfl) ?_
                                exact ⟨rfl, _, hS, rfl⟩))
                      · first
                        | (exfalso; first | exact absurd c_30 (by decide) | first | contradiction | omega)
                        | (refine ri_iload_n h d_Md_array_33 rfl ?_
                           refine ri_bipushN h 20 d_Md_array_34 rfl ?_
                           first | refine ri_icmpN_gt h 55 d_Md_array_36 (by decide) (by omega) (by omega) (fun c_36 => ?_) (fun c_36 => ?_) | refine ri_icmp_gt h 55 d_Md_array_36 (by decide) (fun c_36 => ?_) (fun c_36 => ?_)
                           · first
                             | (exfalso; first | exact absurd c_36 (by decide) | first | contradiction | omega)
                             | (refine ri_iconstN h 2 d_Md_array_55 rfl ?_
                                refine ri_goto h 60 d_Md_array_56 (by decide) ?_
                                refine ri_pm_code h d_Md_array_60 fl_Md_108 hS (fun M hS => ?_)
                                refine ri_aload_n h d_Md_array_63 rfl ?_
                                refine ri_get h d_Md_array_64 fl_Md_108 (by first | assumption | exact hS.mo | exact gup_s) (by rfl) ?_
                                try dsimp only [MS.code, MS.set_code]
                                first | refine ri_ifN_le h 72 d_Md_array_67 (by decide) (by omega) (fun c_67 => ?_) (fun c_67 => ?_) | refine ri_if_le h 72 d_Md_array_67 (by decide) (fun c_67 => ?_) (fun c_67 => ?_)
                                · first
                                  | (exfalso; first | exact absurd c_67 (by decide) | first | contradiction | omega)
                                  | (refine ri_aload_n h d_Md_array_72 rfl ?_
                                     refine ri_get h d_Md_array_73 fl_Md_51 (by first | assumption | exact hS.mo | exact gup_s) (by rfl) ?_
                                     refine ri_iload_n h d_Md_array_76 rfl ?_
                                     refine ri_iload_n h d_Md_array_77 rfl ?_
                                     refine ri_iast h _ d_Md_array_78 (by first | assumption | exact hS.a17) (by first | rfl | assumption) (by first | assumption | omega) (by first | decide | omega) ?_
                                     refine ri_gH (hS.set_mi 17 rfl _) (fun M hS => ?_)
                                     refine ri_aload_n h d_Md_array_79 rfl ?_
                                     refine ri_get h d_Md_array_80 fl_Md_54 (by first | assumption | exact hS.mo | exact gup_s) (by rfl) ?_
                                     refine ri_iload_n h d_Md_array_83 rfl ?_
                                     refine ri_iload_n h d_Md_array_84 rfl ?_
                                     refine ri_iast h _ d_Md_array_85 (by first | assumption | exact hS.a18) (by first | rfl | assumption) (by first | assumption | omega) (by first | decide | omega) ?_
                                     refine ri_gH (hS.set_mi 18 rfl _) (fun M hS => ?_)
                                     refine ri_aload_n h d_Md_array_86 rfl ?_
                                     refine ri_get h d_Md_array_87 fl_Md_57 (by first | assumption | exact hS.mo | exact gup_s) (by rfl) ?_
                                     refine ri_iload_n h d_Md_array_90 rfl ?_
                                     refine ri_lload h d_Md_array_91 rfl ?_
                                     refine ri_last h _ d_Md_array_93 (by first | assumption | exact hS.a19) (by first | rfl | assumption) (by first | assumption | omega) (by first | decide | omega) ?_
                                     refine ri_gH (hS.set_ml 19 rfl _) (fun M hS => ?_)
                                     refine ri_aload_n h d_Md_array_94 rfl ?_
                                     refine ri_get h d_Md_array_95 fl_Md_60 (by first | assumption | exact hS.mo | exact gup_s) (by rfl) ?_
                                     refine ri_iload_n h d_Md_array_98 rfl ?_
                                     refine ri_lload h d_Md_array_99 rfl ?_
                                     refine ri_last h _ d_Md_array_101 (by first | assumption | exact hS.a20) (by first | rfl | assumption) (by first | assumption | omega) (by first | decide | omega) ?_
                                     refine ri_gH (hS.set_ml 20 rfl _) (fun M hS => ?_)
                                     refine ri_iload_n h d_Md_array_102 rfl ?_
                                     refine ri_iload_n h d_Md_array_103 rfl ?_
                                     first | refine ri_imulN h d_Md_array_104 ?_ | refine ri_imul h d_Md_array_104 ?_
                                     refine ri_ireturn h d_Md_array_105 (Nat.le_of_ble_eq_true rfl) (Nat.le_of_ble_eq_true rfl) ?_
                                     exact ⟨rfl, _, hS, rfl⟩)
                                · first
                                  | (exfalso; first | exact absurd c_67 (by decide) | first | contradiction | omega)
                                  | (refine ri_iconstN h 0 d_Md_array_70 rfl ?_
                                     refine ri_ireturn h d_Md_array_71 (Nat.le_of_ble_eq_true rfl) (Nat.le_of_ble_eq_true rfl) ?_
                                     exact ⟨rfl, _, hS, rfl⟩))
                           · first
                             | (exfalso; first | exact absurd c_36 (by decide) | first | contradiction | omega)
                             | (refine ri_lload h d_Md_array_39 rfl ?_
                                refine ri_cSv_1 h d_Md_array_41 cs_Md_136 (k_far h0) (Nat.le_of_ble_eq_true rfl) (Nat.le_of_ble_eq_true rfl) (Nat.le_of_ble_eq_true rfl) (Nat.le_of_ble_eq_true rfl) (Nat.le_of_ble_eq_true rfl) ?_
                                first | refine ri_ifB_ne h 55 d_Md_array_44 (by decide) (fun c_44 => ?_) (fun c_44 => ?_) | refine ri_ifN_ne h 55 d_Md_array_44 (by decide) (by omega) (fun c_44 => ?_) (fun c_44 => ?_) | refine ri_if_ne h 55 d_Md_array_44 (by decide) (fun c_44 => ?_) (fun c_44 => ?_)
                                · first
                                  | (exfalso; first | exact absurd c_44 (by decide) | first | contradiction | omega)
                                  | (refine ri_iconstN h 2 d_Md_array_55 rfl ?_
                                     refine ri_goto h 60 d_Md_array_56 (by decide) ?_
                                     refine ri_pm_code h d_Md_array_60 fl_Md_108 hS (fun M hS => ?_)
                                     refine ri_aload_n h d_Md_array_63 rfl ?_
                                     refine ri_get h d_Md_array_64 fl_Md_108 (by first | assumption | exact hS.mo | exact gup_s) (by rfl) ?_
                                     try dsimp only [MS.code, MS.set_code]
                                     first | refine ri_ifN_le h 72 d_Md_array_67 (by decide) (by omega) (fun c_67 => ?_) (fun c_67 => ?_) | refine ri_if_le h 72 d_Md_array_67 (by decide) (fun c_67 => ?_) (fun c_67 => ?_)
                                     · first
                                       | (exfalso; first | exact absurd c_67 (by decide) | first | contradiction | omega)
                                       | (refine ri_aload_n h d_Md_array_72 rfl ?_
                                          refine ri_get h d_Md_array_73 fl_Md_51 (by first | assumption | exact hS.mo | exact gup_s) (by rfl) ?_
                                          refine ri_iload_n h d_Md_array_76 rfl ?_
                                          refine ri_iload_n h d_Md_array_77 rfl ?_
                                          refine ri_iast h _ d_Md_array_78 (by first | assumption | exact hS.a17) (by first | rfl | assumption) (by first | assumption | omega) (by first | decide | omega) ?_
                                          refine ri_gH (hS.set_mi 17 rfl _) (fun M hS => ?_)
                                          refine ri_aload_n h d_Md_array_79 rfl ?_
                                          refine ri_get h d_Md_array_80 fl_Md_54 (by first | assumption | exact hS.mo | exact gup_s) (by rfl) ?_
                                          refine ri_iload_n h d_Md_array_83 rfl ?_
                                          refine ri_iload_n h d_Md_array_84 rfl ?_
                                          refine ri_iast h _ d_Md_array_85 (by first | assumption | exact hS.a18) (by first | rfl | assumption) (by first | assumption | omega) (by first | decide | omega) ?_
                                          refine ri_gH (hS.set_mi 18 rfl _) (fun M hS => ?_)
                                          refine ri_aload_n h d_Md_array_86 rfl ?_
                                          refine ri_get h d_Md_array_87 fl_Md_57 (by first | assumption | exact hS.mo | exact gup_s) (by rfl) ?_
                                          refine ri_iload_n h d_Md_array_90 rfl ?_
                                          refine ri_lload h d_Md_array_91 rfl ?_
                                          refine ri_last h _ d_Md_array_93 (by first | assumption | exact hS.a19) (by first | rfl | assumption) (by first | assumption | omega) (by first | decide | omega) ?_
                                          refine ri_gH (hS.set_ml 19 rfl _) (fun M hS => ?_)
                                          refine ri_aload_n h d_Md_array_94 rfl ?_
                                          refine ri_get h d_Md_array_95 fl_Md_60 (by first | assumption | exact hS.mo | exact gup_s) (by rfl) ?_
                                          refine ri_iload_n h d_Md_array_98 rfl ?_
                                          refine ri_lload h d_Md_array_99 rfl ?_
                                          refine ri_last h _ d_Md_array_101 (by first | assumption | exact hS.a20) (by first | rfl | assumption) (by first | assumption | omega) (by first | decide | omega) ?_
                                          refine ri_gH (hS.set_ml 20 rfl _) (fun M hS => ?_)
                                          refine ri_iload_n h d_Md_array_102 rfl ?_
                                          refine ri_iload_n h d_Md_array_103 rfl ?_
                                          first | refine ri_imulN h d_Md_array_104 ?_ | refine ri_imul h d_Md_array_104 ?_
                                          refine ri_ireturn h d_Md_array_105 (Nat.le_of_ble_eq_true rfl) (Nat.le_of_ble_eq_true rfl) ?_
                                          exact ⟨rfl, _, hS, rfl⟩)
                                     · first
                                       | (exfalso; first | exact absurd c_67 (by decide) | first | contradiction | omega)
                                       | (refine ri_iconstN h 0 d_Md_array_70 rfl ?_
                                          refine ri_ireturn h d_Md_array_71 (Nat.le_of_ble_eq_true rfl) (Nat.le_of_ble_eq_true rfl) ?_
                                          exact ⟨rfl, _, hS, rfl⟩))
                                · first
                                  | (exfalso; first | exact absurd c_44 (by decide) | first | contradiction | omega)
                                  | (refine ri_lload h d_Md_array_47 rfl ?_
                                     refine ri_cSv_1 h d_Md_array_49 cs_Md_136 (k_far h0) (Nat.le_of_ble_eq_true rfl) (Nat.le_of_ble_eq_true rfl) (Nat.le_of_ble_eq_true rfl) (Nat.le_of_ble_eq_true rfl) (Nat.le_of_ble_eq_true rfl) ?_
                                     first | refine ri_ifB_eq h 59 d_Md_array_52 (by decide) (fun c_52 => ?_) (fun c_52 => ?_) | refine ri_ifN_eq h 59 d_Md_array_52 (by decide) (by omega) (fun c_52 => ?_) (fun c_52 => ?_) | refine ri_if_eq h 59 d_Md_array_52 (by decide) (fun c_52 => ?_) (fun c_52 => ?_)
                                     · first
                                       | (exfalso; first | exact absurd c_52 (by decide) | first | contradiction | omega)
                                       | (refine ri_iconstN h 0 d_Md_array_59 rfl ?_
                                          refine ri_pm_code h d_Md_array_60 fl_Md_108 hS (fun M hS => ?_)
                                          refine ri_aload_n h d_Md_array_63 rfl ?_
                                          refine ri_get h d_Md_array_64 fl_Md_108 (by first | assumption | exact hS.mo | exact gup_s) (by rfl) ?_
                                          try dsimp only [MS.code, MS.set_code]
                                          first | refine ri_ifN_le h 72 d_Md_array_67 (by decide) (by omega) (fun c_67 => ?_) (fun c_67 => ?_) | refine ri_if_le h 72 d_Md_array_67 (by decide) (fun c_67 => ?_) (fun c_67 => ?_)
                                          · first
                                            | (exfalso; first | exact absurd c_67 (by decide) | first | contradiction | omega)
                                            | (refine ri_aload_n h d_Md_array_72 rfl ?_
                                               refine ri_get h d_Md_array_73 fl_Md_51 (by first | assumption | exact hS.mo | exact gup_s) (by rfl) ?_
                                               refine ri_iload_n h d_Md_array_76 rfl ?_
                                               refine ri_iload_n h d_Md_array_77 rfl ?_
                                               refine ri_iast h _ d_Md_array_78 (by first | assumption | exact hS.a17) (by first | rfl | assumption) (by first | assumption | omega) (by first | decide | omega) ?_
                                               refine ri_gH (hS.set_mi 17 rfl _) (fun M hS => ?_)
                                               refine ri_aload_n h d_Md_array_79 rfl ?_
                                               refine ri_get h d_Md_array_80 fl_Md_54 (by first | assumption | exact hS.mo | exact gup_s) (by rfl) ?_
                                               refine ri_iload_n h d_Md_array_83 rfl ?_
                                               refine ri_iload_n h d_Md_array_84 rfl ?_
                                               refine ri_iast h _ d_Md_array_85 (by first | assumption | exact hS.a18) (by first | rfl | assumption) (by first | assumption | omega) (by first | decide | omega) ?_
                                               refine ri_gH (hS.set_mi 18 rfl _) (fun M hS => ?_)
                                               refine ri_aload_n h d_Md_array_86 rfl ?_
                                               refine ri_get h d_Md_array_87 fl_Md_57 (by first | assumption | exact hS.mo | exact gup_s) (by rfl) ?_
                                               refine ri_iload_n h d_Md_array_90 rfl ?_
                                               refine ri_lload h d_Md_array_91 rfl ?_
                                               refine ri_last h _ d_Md_array_93 (by first | assumption | exact hS.a19) (by first | rfl | assumption) (by first | assumption | omega) (by first | decide | omega) ?_
                                               refine ri_gH (hS.set_ml 19 rfl _) (fun M hS => ?_)
                                               refine ri_aload_n h d_Md_array_94 rfl ?_
                                               refine ri_get h d_Md_array_95 fl_Md_60 (by first | assumption | exact hS.mo | exact gup_s) (by rfl) ?_
                                               refine ri_iload_n h d_Md_array_98 rfl ?_
                                               refine ri_lload h d_Md_array_99 rfl ?_
                                               refine ri_last h _ d_Md_array_101 (by first | assumption | exact hS.a20) (by first | rfl | assumption) (by first | assumption | omega) (by first | decide | omega) ?_
                                               refine ri_gH (hS.set_ml 20 rfl _) (fun M hS => ?_)
                                               refine ri_iload_n h d_Md_array_102 rfl ?_
                                               refine ri_iload_n h d_Md_array_103 rfl ?_
                                               first | refine ri_imulN h d_Md_array_104 ?_ | refine ri_imul h d_Md_array_104 ?_
                                               refine ri_ireturn h d_Md_array_105 (Nat.le_of_ble_eq_true rfl) (Nat.le_of_ble_eq_true rfl) ?_
                                               exact ⟨rfl, _, hS, rfl⟩)
                                          · first
                                            | (exfalso; first | exact absurd c_67 (by decide) | first | contradiction | omega)
                                            | (refine ri_iconstN h 0 d_Md_array_70 rfl ?_
                                               refine ri_ireturn h d_Md_array_71 (Nat.le_of_ble_eq_true rfl) (Nat.le_of_ble_eq_true rfl) ?_
                                               exact ⟨rfl, _, hS, rfl⟩))
                                     · first
                                       | (exfalso; first | exact absurd c_52 (by decide) | first | contradiction | omega)
                                       | (refine ri_iconstN h 2 d_Md_array_55 rfl ?_
                                          refine ri_goto h 60 d_Md_array_56 (by decide) ?_
                                          refine ri_pm_code h d_Md_array_60 fl_Md_108 hS (fun M hS => ?_)
                                          refine ri_aload_n h d_Md_array_63 rfl ?_
                                          refine ri_get h d_Md_array_64 fl_Md_108 (by first | assumption | exact hS.mo | exact gup_s) (by rfl) ?_
                                          try dsimp only [MS.code, MS.set_code]
                                          first | refine ri_ifN_le h 72 d_Md_array_67 (by decide) (by omega) (fun c_67 => ?_) (fun c_67 => ?_) | refine ri_if_le h 72 d_Md_array_67 (by decide) (fun c_67 => ?_) (fun c_67 => ?_)
                                          · first
                                            | (exfalso; first | exact absurd c_67 (by decide) | first | contradiction | omega)
                                            | (refine ri_aload_n h d_Md_array_72 rfl ?_
                                               refine ri_get h d_Md_array_73 fl_Md_51 (by first | assumption | exact hS.mo | exact gup_s) (by rfl) ?_
                                               refine ri_iload_n h d_Md_array_76 rfl ?_
                                               refine ri_iload_n h d_Md_array_77 rfl ?_
                                               refine ri_iast h _ d_Md_array_78 (by first | assumption | exact hS.a17) (by first | rfl | assumption) (by first | assumption | omega) (by first | decide | omega) ?_
                                               refine ri_gH (hS.set_mi 17 rfl _) (fun M hS => ?_)
                                               refine ri_aload_n h d_Md_array_79 rfl ?_
                                               refine ri_get h d_Md_array_80 fl_Md_54 (by first | assumption | exact hS.mo | exact gup_s) (by rfl) ?_
                                               refine ri_iload_n h d_Md_array_83 rfl ?_
                                               refine ri_iload_n h d_Md_array_84 rfl ?_
                                               refine ri_iast h _ d_Md_array_85 (by first | assumption | exact hS.a18) (by first | rfl | assumption) (by first | assumption | omega) (by first | decide | omega) ?_
                                               refine ri_gH (hS.set_mi 18 rfl _) (fun M hS => ?_)
                                               refine ri_aload_n h d_Md_array_86 rfl ?_
                                               refine ri_get h d_Md_array_87 fl_Md_57 (by first | assumption | exact hS.mo | exact gup_s) (by rfl) ?_
                                               refine ri_iload_n h d_Md_array_90 rfl ?_
                                               refine ri_lload h d_Md_array_91 rfl ?_
                                               refine ri_last h _ d_Md_array_93 (by first | assumption | exact hS.a19) (by first | rfl | assumption) (by first | assumption | omega) (by first | decide | omega) ?_
                                               refine ri_gH (hS.set_ml 19 rfl _) (fun M hS => ?_)
                                               refine ri_aload_n h d_Md_array_94 rfl ?_
                                               refine ri_get h d_Md_array_95 fl_Md_60 (by first | assumption | exact hS.mo | exact gup_s) (by rfl) ?_
                                               refine ri_iload_n h d_Md_array_98 rfl ?_
                                               refine ri_lload h d_Md_array_99 rfl ?_
                                               refine ri_last h _ d_Md_array_101 (by first | assumption | exact hS.a20) (by first | rfl | assumption) (by first | assumption | omega) (by first | decide | omega) ?_
                                               refine ri_gH (hS.set_ml 20 rfl _) (fun M hS => ?_)
                                               refine ri_iload_n h d_Md_array_102 rfl ?_
                                               refine ri_iload_n h d_Md_array_103 rfl ?_
                                               first | refine ri_imulN h d_Md_array_104 ?_ | refine ri_imul h d_Md_array_104 ?_
                                               refine ri_ireturn h d_Md_array_105 (Nat.le_of_ble_eq_true rfl) (Nat.le_of_ble_eq_true rfl) ?_
                                               exact ⟨rfl, _, hS, rfl⟩)
                                          · first
                                            | (exfalso; first | exact absurd c_67 (by decide) | first | contradiction | omega)
                                            | (refine ri_iconstN h 0 d_Md_array_70 rfl ?_
                                               refine ri_ireturn h d_Md_array_71 (Nat.le_of_ble_eq_true rfl) (Nat.le_of_ble_eq_true rfl) ?_
                                               exact ⟨rfl, _, hS, rfl⟩))))))))
       · first
         | (exfalso; first | exact absurd c_10 (by decide) | first | contradiction | omega)
         | (refine ri_iconstN h 1 d_Md_array_13 rfl ?_
            refine ri_goto h 60 d_Md_array_14 (by decide) ?_
            refine ri_pm_code h d_Md_array_60 fl_Md_108 hS (fun M hS => ?_)
            refine ri_aload_n h d_Md_array_63 rfl ?_
            refine ri_get h d_Md_array_64 fl_Md_108 (by first | assumption | exact hS.mo | exact gup_s) (by rfl) ?_
            try dsimp only [MS.code, MS.set_code]
            first | refine ri_ifN_le h 72 d_Md_array_67 (by decide) (by omega) (fun c_67 => ?_) (fun c_67 => ?_) | refine ri_if_le h 72 d_Md_array_67 (by decide) (fun c_67 => ?_) (fun c_67 => ?_)
            · first
              | (exfalso; first | exact absurd c_67 (by decide) | first | contradiction | omega)
              | (refine ri_aload_n h d_Md_array_72 rfl ?_
                 refine ri_get h d_Md_array_73 fl_Md_51 (by first | assumption | exact hS.mo | exact gup_s) (by rfl) ?_
                 refine ri_iload_n h d_Md_array_76 rfl ?_
                 refine ri_iload_n h d_Md_array_77 rfl ?_
                 refine ri_iast h _ d_Md_array_78 (by first | assumption | exact hS.a17) (by first | rfl | assumption) (by first | assumption | omega) (by first | decide | omega) ?_
                 refine ri_gH (hS.set_mi 17 rfl _) (fun M hS => ?_)
                 refine ri_aload_n h d_Md_array_79 rfl ?_
                 refine ri_get h d_Md_array_80 fl_Md_54 (by first | assumption | exact hS.mo | exact gup_s) (by rfl) ?_
                 refine ri_iload_n h d_Md_array_83 rfl ?_
                 refine ri_iload_n h d_Md_array_84 rfl ?_
                 refine ri_iast h _ d_Md_array_85 (by first | assumption | exact hS.a18) (by first | rfl | assumption) (by first | assumption | omega) (by first | decide | omega) ?_
                 refine ri_gH (hS.set_mi 18 rfl _) (fun M hS => ?_)
                 refine ri_aload_n h d_Md_array_86 rfl ?_
                 refine ri_get h d_Md_array_87 fl_Md_57 (by first | assumption | exact hS.mo | exact gup_s) (by rfl) ?_
                 refine ri_iload_n h d_Md_array_90 rfl ?_
                 refine ri_lload h d_Md_array_91 rfl ?_
                 refine ri_last h _ d_Md_array_93 (by first | assumption | exact hS.a19) (by first | rfl | assumption) (by first | assumption | omega) (by first | decide | omega) ?_
                 refine ri_gH (hS.set_ml 19 rfl _) (fun M hS => ?_)
                 refine ri_aload_n h d_Md_array_94 rfl ?_
                 refine ri_get h d_Md_array_95 fl_Md_60 (by first | assumption | exact hS.mo | exact gup_s) (by rfl) ?_
                 refine ri_iload_n h d_Md_array_98 rfl ?_
                 refine ri_lload h d_Md_array_99 rfl ?_
                 refine ri_last h _ d_Md_array_101 (by first | assumption | exact hS.a20) (by first | rfl | assumption) (by first | assumption | omega) (by first | decide | omega) ?_
                 refine ri_gH (hS.set_ml 20 rfl _) (fun M hS => ?_)
                 refine ri_iload_n h d_Md_array_102 rfl ?_
                 refine ri_iload_n h d_Md_array_103 rfl ?_
                 first | refine ri_imulN h d_Md_array_104 ?_ | refine ri_imul h d_Md_array_104 ?_
                 refine ri_ireturn h d_Md_array_105 (Nat.le_of_ble_eq_true rfl) (Nat.le_of_ble_eq_true rfl) ?_
                 exact ⟨rfl, _, hS, rfl⟩)
            · first
              | (exfalso; first | exact absurd c_67 (by decide) | first | contradiction | omega)
              | (refine ri_iconstN h 0 d_Md_array_70 rfl ?_
                 refine ri_ireturn h d_Md_array_71 (Nat.le_of_ble_eq_true rfl) (Nat.le_of_ble_eq_true rfl) ?_
                 exact ⟨rfl, _, hS, rfl⟩)))
theorem k_marray_no1 (h0 : g_0 l D s0) (hS : HS z ad Qc N M) (hm : MR Q N) (hW : WB Q) {p : Int32} (hp : ¬ ∃ c, c < Q.nP ∧ p = nI c) {a b : Int32} {u v : Int64} : Ct l D s0 y_Md_array (Cond.code y_Md_array b_Md_array 8 (some .int)) rkM [.ref (ad 30 0), .int p, .int a, .int b, .long u, .long v] M (fM z ad Qc (some (.int 0)) (fun N' => N' = N.set_code 1)) := by
  have hb1 := hW.2.2.1
  have hnp := hm.np
  refine Ct.of h0 (by decide +kernel) rfl fun X hX h => ?_
  obtain ⟨p_, l', e_, R_, s_, m_, ar_, be_, me_, c_⟩ := X
  obtain rfl : l' = l := hX
  refine ri_aload_n h d_Md_array_0 rfl ?_
  refine ri_iload_n h d_Md_array_1 rfl ?_
  refine ri_if_lt h 13 d_Md_array_2 (by decide) (fun c_2 => ?_) (fun c_2 => ?_)
  · first
    | (exfalso; first | exact absurd c_2 (by decide) | first | contradiction | omega)
    | (refine ri_iconstN h 1 d_Md_array_13 rfl ?_
       refine ri_goto h 60 d_Md_array_14 (by decide) ?_
       refine ri_pm_code h d_Md_array_60 fl_Md_108 hS (fun M hS => ?_)
       refine ri_aload_n h d_Md_array_63 rfl ?_
       refine ri_get h d_Md_array_64 fl_Md_108 (by first | assumption | exact hS.mo | exact gup_s) (by rfl) ?_
       try dsimp only [MS.code, MS.set_code]
       first | refine ri_ifN_le h 72 d_Md_array_67 (by decide) (by omega) (fun c_67 => ?_) (fun c_67 => ?_) | refine ri_if_le h 72 d_Md_array_67 (by decide) (fun c_67 => ?_) (fun c_67 => ?_)
       · first
         | (exfalso; first | exact absurd c_67 (by decide) | first | contradiction | omega)
         | (omega)
       · first
         | (exfalso; first | exact absurd c_67 (by decide) | first | contradiction | omega)
         | (refine ri_iconstN h 0 d_Md_array_70 rfl ?_
            refine ri_ireturn h d_Md_array_71 (Nat.le_of_ble_eq_true rfl) (Nat.le_of_ble_eq_true rfl) ?_
            exact ⟨rfl, _, hS, rfl⟩))
  · first
    | (exfalso; first | exact absurd c_2 (by decide) | first | contradiction | omega)
    | (refine ri_iload_n h d_Md_array_5 rfl ?_
       refine ri_aload_n h d_Md_array_6 rfl ?_
       refine ri_get h d_Md_array_7 fl_Md_148 (by first | assumption | exact hS.mo | exact gup_s) (by rfl) ?_
       refine ri_icmp_lt h 17 d_Md_array_10 (by decide) (fun c_10 => ?_) (fun c_10 => ?_)
       · first
         | (exfalso; first | exact absurd c_10 (by decide) | first | contradiction | omega)
         | (exact absurd (ix_of (by omega) c_2 (hnp ▸ c_10)) hp)
       · first
         | (exfalso; first | exact absurd c_10 (by decide) | first | contradiction | omega)
         | (refine ri_iconstN h 1 d_Md_array_13 rfl ?_
            refine ri_goto h 60 d_Md_array_14 (by decide) ?_
            refine ri_pm_code h d_Md_array_60 fl_Md_108 hS (fun M hS => ?_)
            refine ri_aload_n h d_Md_array_63 rfl ?_
            refine ri_get h d_Md_array_64 fl_Md_108 (by first | assumption | exact hS.mo | exact gup_s) (by rfl) ?_
            try dsimp only [MS.code, MS.set_code]
            first | refine ri_ifN_le h 72 d_Md_array_67 (by decide) (by omega) (fun c_67 => ?_) (fun c_67 => ?_) | refine ri_if_le h 72 d_Md_array_67 (by decide) (fun c_67 => ?_) (fun c_67 => ?_)
            · first
              | (exfalso; first | exact absurd c_67 (by decide) | first | contradiction | omega)
              | (omega)
            · first
              | (exfalso; first | exact absurd c_67 (by decide) | first | contradiction | omega)
              | (refine ri_iconstN h 0 d_Md_array_70 rfl ?_
                 refine ri_ireturn h d_Md_array_71 (Nat.le_of_ble_eq_true rfl) (Nat.le_of_ble_eq_true rfl) ?_
                 exact ⟨rfl, _, hS, rfl⟩)))
theorem k_marray_no2 (h0 : g_0 l D s0) (hS : HS z ad Qc N M) (hm : MR Q N) (hW : WB Q) {p : Nat} (hp : p < Q.nP) {a b : Int32} {u v : Int64} (hn : ¬ (¬ a < 1 ∧ ¬ 20 < a ∧ ¬ b < 1 ∧ b ≤ 20 ∧ nearB u ∧ nearB v)) : Ct l D s0 y_Md_array (Cond.code y_Md_array b_Md_array 8 (some .int)) rkM [.ref (ad 30 0), .int (nI p), .int a, .int b, .long u, .long v] M (fM z ad Qc (some (.int 0)) (fun N' => N' = N.set_code 2)) := by
  have hb1 := hW.2.2.1
  have hnp := hm.np
  refine Ct.of h0 (by decide +kernel) rfl fun X hX h => ?_
  obtain ⟨p_, l', e_, R_, s_, m_, ar_, be_, me_, c_⟩ := X
  obtain rfl : l' = l := hX
  refine ri_aload_n h d_Md_array_0 rfl ?_
  refine ri_iload_n h d_Md_array_1 rfl ?_
  refine ri_ifM_lt h 13 d_Md_array_2 (by decide) (by omega) (fun c_2 => ?_) (fun c_2 => ?_)
  · exact c_2.elim
  · first
    | (exfalso; first | exact absurd c_2 (by decide) | first | contradiction | omega)
    | (refine ri_iload_n h d_Md_array_5 rfl ?_
       refine ri_aload_n h d_Md_array_6 rfl ?_
       refine ri_get h d_Md_array_7 fl_Md_148 (by first | assumption | exact hS.mo | exact gup_s) (by rfl) ?_
       first | refine ri_icmpN_lt h 17 d_Md_array_10 (by decide) (by omega) (by omega) (fun c_10 => ?_) (fun c_10 => ?_) | refine ri_icmp_lt h 17 d_Md_array_10 (by decide) (fun c_10 => ?_) (fun c_10 => ?_)
       · first
         | (exfalso; first | exact absurd c_10 (by decide) | first | contradiction | omega)
         | (refine ri_iload_n h d_Md_array_17 rfl ?_
            refine ri_iconstN h 1 d_Md_array_18 rfl ?_
            refine ri_icmp_lt h 55 d_Md_array_19 (by decide) (fun c_19 => ?_) (fun c_19 => ?_)
            · first
              | (exfalso; first | exact absurd c_19 (by decide) | first | contradiction | omega)
              | (refine ri_iconstN h 2 d_Md_array_55 rfl ?_
                 refine ri_goto h 60 d_Md_array_56 (by decide) ?_
                 refine ri_pm_code h d_Md_array_60 fl_Md_108 hS (fun M hS => ?_)
                 refine ri_aload_n h d_Md_array_63 rfl ?_
                 refine ri_get h d_Md_array_64 fl_Md_108 (by first | assumption | exact hS.mo | exact gup_s) (by rfl) ?_
                 try dsimp only [MS.code, MS.set_code]
                 first | refine ri_ifN_le h 72 d_Md_array_67 (by decide) (by omega) (fun c_67 => ?_) (fun c_67 => ?_) | refine ri_if_le h 72 d_Md_array_67 (by decide) (fun c_67 => ?_) (fun c_67 => ?_)
                 · first
                   | (exfalso; first | exact absurd c_67 (by decide) | first | contradiction | omega)
                   | (omega)
                 · first
                   | (exfalso; first | exact absurd c_67 (by decide) | first | contradiction | omega)
                   | (refine ri_iconstN h 0 d_Md_array_70 rfl ?_
                      refine ri_ireturn h d_Md_array_71 (Nat.le_of_ble_eq_true rfl) (Nat.le_of_ble_eq_true rfl) ?_
                      exact ⟨rfl, _, hS, rfl⟩))
            · first
              | (exfalso; first | exact absurd c_19 (by decide) | first | contradiction | omega)
              | (refine ri_iload_n h d_Md_array_22 rfl ?_
                 refine ri_bipushN h 20 d_Md_array_23 rfl ?_
                 refine ri_icmp_gt h 55 d_Md_array_25 (by decide) (fun c_25 => ?_) (fun c_25 => ?_)
                 · first
                   | (exfalso; first | exact absurd c_25 (by decide) | first | contradiction | omega)
                   | (refine ri_iconstN h 2 d_Md_array_55 rfl ?_
                      refine ri_goto h 60 d_Md_array_56 (by decide) ?_
                      refine ri_pm_code h d_Md_array_60 fl_Md_108 hS (fun M hS => ?_)
                      refine ri_aload_n h d_Md_array_63 rfl ?_
                      refine ri_get h d_Md_array_64 fl_Md_108 (by first | assumption | exact hS.mo | exact gup_s) (by rfl) ?_
                      try dsimp only [MS.code, MS.set_code]
                      first | refine ri_ifN_le h 72 d_Md_array_67 (by decide) (by omega) (fun c_67 => ?_) (fun c_67 => ?_) | refine ri_if_le h 72 d_Md_array_67 (by decide) (fun c_67 => ?_) (fun c_67 => ?_)
                      · first
                        | (exfalso; first | exact absurd c_67 (by decide) | first | contradiction | omega)
                        | (omega)
                      · first
                        | (exfalso; first | exact absurd c_67 (by decide) | first | contradiction | omega)
                        | (refine ri_iconstN h 0 d_Md_array_70 rfl ?_
                           refine ri_ireturn h d_Md_array_71 (Nat.le_of_ble_eq_true rfl) (Nat.le_of_ble_eq_true rfl) ?_
                           exact ⟨rfl, _, hS, rfl⟩))
                 · first
                   | (exfalso; first | exact absurd c_25 (by decide) | first | contradiction | omega)
                   | (refine ri_iload_n h d_Md_array_28 rfl ?_
                      refine ri_iconstN h 1 d_Md_array_29 rfl ?_
                      refine ri_icmp_lt h 55 d_Md_array_30 (by decide) (fun c_30 => ?_) (fun c_30 => ?_)
                      · first
                        | (exfalso; first | exact absurd c_30 (by decide) | first | contradiction | omega)
                        | (refine ri_iconstN h 2 d_Md_array_55 rfl ?_
                           refine ri_goto h 60 d_Md_array_56 (by decide) ?_
                           refine ri_pm_code h d_Md_array_60 fl_Md_108 hS (fun M hS => ?_)
                           refine ri_aload_n h d_Md_array_63 rfl ?_
                           refine ri_get h d_Md_array_64 fl_Md_108 (by first | assumption | exact hS.mo | exact gup_s) (by rfl) ?_
                           try dsimp only [MS.code, MS.set_code]
                           first | refine ri_ifN_le h 72 d_Md_array_67 (by decide) (by omega) (fun c_67 => ?_) (fun c_67 => ?_) | refine ri_if_le h 72 d_Md_array_67 (by decide) (fun c_67 => ?_) (fun c_67 => ?_)
                           · first
                             | (exfalso; first | exact absurd c_67 (by decide) | first | contradiction | omega)
                             | (omega)
                           · first
                             | (exfalso; first | exact absurd c_67 (by decide) | first | contradiction | omega)
                             | (refine ri_iconstN h 0 d_Md_array_70 rfl ?_
                                refine ri_ireturn h d_Md_array_71 (Nat.le_of_ble_eq_true rfl) (Nat.le_of_ble_eq_true rfl) ?_
                                exact ⟨rfl, _, hS, rfl⟩))
                      · first
                        | (exfalso; first | exact absurd c_30 (by decide) | first | contradiction | omega)
                        | (refine ri_iload_n h d_Md_array_33 rfl ?_
                           refine ri_bipushN h 20 d_Md_array_34 rfl ?_
                           refine ri_icmp_gt h 55 d_Md_array_36 (by decide) (fun c_36 => ?_) (fun c_36 => ?_)
                           · first
                             | (exfalso; first | exact absurd c_36 (by decide) | first | contradiction | omega)
                             | (refine ri_iconstN h 2 d_Md_array_55 rfl ?_
                                refine ri_goto h 60 d_Md_array_56 (by decide) ?_
                                refine ri_pm_code h d_Md_array_60 fl_Md_108 hS (fun M hS => ?_)
                                refine ri_aload_n h d_Md_array_63 rfl ?_
                                refine ri_get h d_Md_array_64 fl_Md_108 (by first | assumption | exact hS.mo | exact gup_s) (by rfl) ?_
                                try dsimp only [MS.code, MS.set_code]
                                first | refine ri_ifN_le h 72 d_Md_array_67 (by decide) (by omega) (fun c_67 => ?_) (fun c_67 => ?_) | refine ri_if_le h 72 d_Md_array_67 (by decide) (fun c_67 => ?_) (fun c_67 => ?_)
                                · first
                                  | (exfalso; first | exact absurd c_67 (by decide) | first | contradiction | omega)
                                  | (omega)
                                · first
                                  | (exfalso; first | exact absurd c_67 (by decide) | first | contradiction | omega)
                                  | (refine ri_iconstN h 0 d_Md_array_70 rfl ?_
                                     refine ri_ireturn h d_Md_array_71 (Nat.le_of_ble_eq_true rfl) (Nat.le_of_ble_eq_true rfl) ?_
                                     exact ⟨rfl, _, hS, rfl⟩))
                           · first
                             | (exfalso; first | exact absurd c_36 (by decide) | first | contradiction | omega)
                             | (refine ri_lload h d_Md_array_39 rfl ?_
                                refine ri_cSv_1 h d_Md_array_41 cs_Md_136 (k_far h0) (Nat.le_of_ble_eq_true rfl) (Nat.le_of_ble_eq_true rfl) (Nat.le_of_ble_eq_true rfl) (Nat.le_of_ble_eq_true rfl) (Nat.le_of_ble_eq_true rfl) ?_
                                first | refine ri_ifB_ne h 55 d_Md_array_44 (by decide) (fun c_44 => ?_) (fun c_44 => ?_) | refine ri_ifN_ne h 55 d_Md_array_44 (by decide) (by omega) (fun c_44 => ?_) (fun c_44 => ?_) | refine ri_if_ne h 55 d_Md_array_44 (by decide) (fun c_44 => ?_) (fun c_44 => ?_)
                                · first
                                  | (exfalso; first | exact absurd c_44 (by decide) | first | contradiction | omega)
                                  | (refine ri_iconstN h 2 d_Md_array_55 rfl ?_
                                     refine ri_goto h 60 d_Md_array_56 (by decide) ?_
                                     refine ri_pm_code h d_Md_array_60 fl_Md_108 hS (fun M hS => ?_)
                                     refine ri_aload_n h d_Md_array_63 rfl ?_
                                     refine ri_get h d_Md_array_64 fl_Md_108 (by first | assumption | exact hS.mo | exact gup_s) (by rfl) ?_
                                     try dsimp only [MS.code, MS.set_code]
                                     first | refine ri_ifN_le h 72 d_Md_array_67 (by decide) (by omega) (fun c_67 => ?_) (fun c_67 => ?_) | refine ri_if_le h 72 d_Md_array_67 (by decide) (fun c_67 => ?_) (fun c_67 => ?_)
                                     · first
                                       | (exfalso; first | exact absurd c_67 (by decide) | first | contradiction | omega)
                                       | (omega)
                                     · first
                                       | (exfalso; first | exact absurd c_67 (by decide) | first | contradiction | omega)
                                       | (refine ri_iconstN h 0 d_Md_array_70 rfl ?_
                                          refine ri_ireturn h d_Md_array_71 (Nat.le_of_ble_eq_true rfl) (Nat.le_of_ble_eq_true rfl) ?_
                                          exact ⟨rfl, _, hS, rfl⟩))
                                · first
                                  | (exfalso; first | exact absurd c_44 (by decide) | first | contradiction | omega)
                                  | (refine ri_lload h d_Md_array_47 rfl ?_
                                     refine ri_cSv_1 h d_Md_array_49 cs_Md_136 (k_far h0) (Nat.le_of_ble_eq_true rfl) (Nat.le_of_ble_eq_true rfl) (Nat.le_of_ble_eq_true rfl) (Nat.le_of_ble_eq_true rfl) (Nat.le_of_ble_eq_true rfl) ?_
                                     first | refine ri_ifB_eq h 59 d_Md_array_52 (by decide) (fun c_52 => ?_) (fun c_52 => ?_) | refine ri_ifN_eq h 59 d_Md_array_52 (by decide) (by omega) (fun c_52 => ?_) (fun c_52 => ?_) | refine ri_if_eq h 59 d_Md_array_52 (by decide) (fun c_52 => ?_) (fun c_52 => ?_)
                                     · first
                                       | (exfalso; first | exact absurd c_52 (by decide) | first | contradiction | omega)
                                       | (exact absurd ⟨c_19, c_25, c_30, Int32.not_lt.mp c_36, Classical.byContradiction c_44, Classical.byContradiction c_52⟩ hn)
                                     · first
                                       | (exfalso; first | exact absurd c_52 (by decide) | first | contradiction | omega)
                                       | (refine ri_iconstN h 2 d_Md_array_55 rfl ?_
                                          refine ri_goto h 60 d_Md_array_56 (by decide) ?_
                                          refine ri_pm_code h d_Md_array_60 fl_Md_108 hS (fun M hS => ?_)
                                          refine ri_aload_n h d_Md_array_63 rfl ?_
                                          refine ri_get h d_Md_array_64 fl_Md_108 (by first | assumption | exact hS.mo | exact gup_s) (by rfl) ?_
                                          try dsimp only [MS.code, MS.set_code]
                                          first | refine ri_ifN_le h 72 d_Md_array_67 (by decide) (by omega) (fun c_67 => ?_) (fun c_67 => ?_) | refine ri_if_le h 72 d_Md_array_67 (by decide) (fun c_67 => ?_) (fun c_67 => ?_)
                                          · first
                                            | (exfalso; first | exact absurd c_67 (by decide) | first | contradiction | omega)
                                            | (omega)
                                          · first
                                            | (exfalso; first | exact absurd c_67 (by decide) | first | contradiction | omega)
                                            | (refine ri_iconstN h 0 d_Md_array_70 rfl ?_
                                               refine ri_ireturn h d_Md_array_71 (Nat.le_of_ble_eq_true rfl) (Nat.le_of_ble_eq_true rfl) ?_
                                               exact ⟨rfl, _, hS, rfl⟩))))))))
       · first
         | (exfalso; first | exact absurd c_10 (by decide) | first | contradiction | omega)
         | (refine ri_iconstN h 1 d_Md_array_13 rfl ?_
            refine ri_goto h 60 d_Md_array_14 (by decide) ?_
            refine ri_pm_code h d_Md_array_60 fl_Md_108 hS (fun M hS => ?_)
            refine ri_aload_n h d_Md_array_63 rfl ?_
            refine ri_get h d_Md_array_64 fl_Md_108 (by first | assumption | exact hS.mo | exact gup_s) (by rfl) ?_
            try dsimp only [MS.code, MS.set_code]
            first | refine ri_ifN_le h 72 d_Md_array_67 (by decide) (by omega) (fun c_67 => ?_) (fun c_67 => ?_) | refine ri_if_le h 72 d_Md_array_67 (by decide) (fun c_67 => ?_) (fun c_67 => ?_)
            · first
              | (exfalso; first | exact absurd c_67 (by decide) | first | contradiction | omega)
              | (omega)
            · first
              | (exfalso; first | exact absurd c_67 (by decide) | first | contradiction | omega)
              | (refine ri_iconstN h 0 d_Md_array_70 rfl ?_
                 refine ri_ireturn h d_Md_array_71 (Nat.le_of_ble_eq_true rfl) (Nat.le_of_ble_eq_true rfl) ?_
                 exact ⟨rfl, _, hS, rfl⟩)))
theorem k_mat_ok (h0 : g_0 l D s0) (hS : HS z ad Qc N M) (hm : MR Q N) (hF : WFl Q.nS Q.sh (Q.fl 0)) (hsc : ∀ s, s < Q.nS → (Q.sh s).cnt ≤ 24) (hi : i < (Q.fl 0).cnt) {k x : Nat} (hk : k < (Q.fl 0).cor i) (hx : x < 2) : Ct l D s0 y_Md_at (Cond.code y_Md_at b_Md_at 5 (some .long)) rkM [.ref (ad 30 0), .int (nI i), .int (nI k), .int (nI x)] M (fM z ad Qc (some (.long (if x = 0 then FX Q.sh (Q.fl 0) i k else FY Q.sh (Q.fl 0) i k))) (fun N' => N' = N.set_code 0)) := by
  have hc := hF.1
  obtain ⟨f1, f2, f3, f4⟩ := hF.2 i hi
  have f5 := hsc _ f2
  have hha := hm.ha
  refine Ct.of h0 (by decide +kernel) rfl fun X hX h => ?_
  obtain ⟨p_, l', e_, R_, s_, m_, ar_, be_, me_, c_⟩ := X
  obtain rfl : l' = l := hX
  rcases (show x = 0 ∨ x = 1 by omega) with rfl | rfl
  · refine ri_aload_n h d_Md_at_0 rfl ?_
    refine ri_iload_n h d_Md_at_1 rfl ?_
    refine ri_ifM_lt h 22 d_Md_at_2 (by decide) (by omega) (fun c_2 => ?_) (fun c_2 => ?_)
    · exact c_2.elim
    · first
      | (exfalso; first | exact absurd c_2 (by decide) | omega)
      | (refine ri_iload_n h d_Md_at_5 rfl ?_
         refine ri_aload_n h d_Md_at_6 rfl ?_
         refine ri_get h d_Md_at_7 fl_Md_188 (by first | assumption | exact hS.mo | exact gup_s) (by rfl) ?_
         first | refine ri_icmpN_ge h 22 d_Md_at_10 (by decide) (by omega) (by omega) (fun c_10 => ?_) (fun c_10 => ?_) | refine ri_icmp_ge h 22 d_Md_at_10 (by decide) (fun c_10 => ?_) (fun c_10 => ?_)
         · first
           | (exfalso; first | exact absurd c_10 (by decide) | omega)
           | (refine ri_iconstN h 1 d_Md_at_22 rfl ?_
              refine ri_goto h 49 d_Md_at_23 (by decide) ?_
              refine ri_pm_code h d_Md_at_49 fl_Md_108 hS (fun M hS => ?_)
              refine ri_ldcN h 144000 d_Md_at_52 kc_Md_191 rfl ?_
              refine ri_bipushN h 24 d_Md_at_54 rfl ?_
              refine ri_iload_n h d_Md_at_56 rfl ?_
              first | refine ri_imulN h d_Md_at_57 ?_ | refine ri_imul h d_Md_at_57 ?_
              first | refine ri_iaddN h d_Md_at_58 ?_ | refine ri_iadd h d_Md_at_58 ?_
              refine ri_iload_n h d_Md_at_59 rfl ?_
              first | refine ri_iaddN h d_Md_at_60 ?_ | refine ri_iadd h d_Md_at_60 ?_
              refine ri_istore h d_Md_at_61 (Nat.le_of_ble_eq_true rfl) ?_
              refine ri_aload_n h d_Md_at_63 rfl ?_
              refine ri_get h d_Md_at_64 fl_Md_108 (by first | assumption | exact hS.mo | exact gup_s) (by rfl) ?_
              try dsimp only [MS.code, MS.set_code]
              first | refine ri_ifN_le h 74 d_Md_at_67 (by decide) (by omega) (fun c_67 => ?_) (fun c_67 => ?_) | refine ri_if_le h 74 d_Md_at_67 (by decide) (fun c_67 => ?_) (fun c_67 => ?_)
              · first
                | (exfalso; first | exact absurd c_67 (by decide) | omega)
                | (refine ri_iload_n h d_Md_at_74 rfl ?_
                   first | refine ri_ifB_ne h 88 d_Md_at_75 (by decide) (fun c_75 => ?_) (fun c_75 => ?_) | refine ri_ifN_ne h 88 d_Md_at_75 (by decide) (by omega) (fun c_75 => ?_) (fun c_75 => ?_) | refine ri_if_ne h 88 d_Md_at_75 (by decide) (fun c_75 => ?_) (fun c_75 => ?_)
                   · first
                     | (exfalso; first | exact absurd c_75 (by decide) | omega)
                     | (refine ri_aload_n h d_Md_at_88 rfl ?_
                        refine ri_get h d_Md_at_89 fl_Md_67 (by first | assumption | exact hS.mo | exact gup_s) (by rfl) ?_
                        refine ri_iload h d_Md_at_92 rfl ?_
                        refine ri_laldE h _ d_Md_at_94 (by first | assumption | exact hS.a23) (by first | rfl | assumption) (by first | assumption | omega) (by first | decide | omega) (by first | assumption | exact hm.i23 (by first | assumption | omega) (by first | assumption | omega) | rfl) ?_
                        refine ri_lreturn h d_Md_at_95 (Nat.le_of_ble_eq_true rfl) (Nat.le_of_ble_eq_true rfl) ?_
                        exact ⟨rfl, _, hS, rfl⟩)
                   · first
                     | (exfalso; first | exact absurd c_75 (by decide) | omega)
                     | (refine ri_aload_n h d_Md_at_78 rfl ?_
                        refine ri_get h d_Md_at_79 fl_Md_64 (by first | assumption | exact hS.mo | exact gup_s) (by rfl) ?_
                        refine ri_iload h d_Md_at_82 rfl ?_
                        refine ri_laldE h _ d_Md_at_84 (by first | assumption | exact hS.a22) (by first | rfl | assumption) (by first | assumption | omega) (by first | decide | omega) (by first | assumption | exact hm.i22 (by first | assumption | omega) (by first | assumption | omega) | rfl) ?_
                        refine ri_goto h 95 d_Md_at_85 (by decide) ?_
                        refine ri_lreturn h d_Md_at_95 (Nat.le_of_ble_eq_true rfl) (Nat.le_of_ble_eq_true rfl) ?_
                        exact ⟨rfl, _, hS, rfl⟩))
              · first
                | (exfalso; first | exact absurd c_67 (by decide) | omega)
                | (refine ri_lconst h 0 d_Md_at_70 rfl ?_
                   refine ri_goto h 95 d_Md_at_71 (by decide) ?_
                   refine ri_lreturn h d_Md_at_95 (Nat.le_of_ble_eq_true rfl) (Nat.le_of_ble_eq_true rfl) ?_
                   exact ⟨rfl, _, hS, rfl⟩))
         · first
           | (exfalso; first | exact absurd c_10 (by decide) | omega)
           | (refine ri_iload_n h d_Md_at_13 rfl ?_
              refine ri_ifM_lt h 22 d_Md_at_14 (by decide) (by omega) (fun c_14 => ?_) (fun c_14 => ?_)
              · exact c_14.elim
              · first
                | (exfalso; first | exact absurd c_14 (by decide) | omega)
                | (refine ri_iload_n h d_Md_at_17 rfl ?_
                   refine ri_iconstN h 1 d_Md_at_18 rfl ?_
                   first | refine ri_icmpN_le h 26 d_Md_at_19 (by decide) (by omega) (by omega) (fun c_19 => ?_) (fun c_19 => ?_) | refine ri_icmp_le h 26 d_Md_at_19 (by decide) (fun c_19 => ?_) (fun c_19 => ?_)
                   · first
                     | (exfalso; first | exact absurd c_19 (by decide) | omega)
                     | (refine ri_iload_n h d_Md_at_26 rfl ?_
                        refine ri_ifM_lt h 44 d_Md_at_27 (by decide) (by omega) (fun c_27 => ?_) (fun c_27 => ?_)
                        · exact c_27.elim
                        · first
                          | (exfalso; first | exact absurd c_27 (by decide) | omega)
                          | (refine ri_iload_n h d_Md_at_30 rfl ?_
                             refine ri_aload_n h d_Md_at_31 rfl ?_
                             refine ri_get h d_Md_at_32 fl_Md_73 (by first | assumption | exact hS.mo | exact gup_s) (by rfl) ?_
                             refine ri_sipushN h 6000 d_Md_at_35 rfl ?_
                             refine ri_iload_n h d_Md_at_38 rfl ?_
                             first | refine ri_iaddN h d_Md_at_39 ?_ | refine ri_iadd h d_Md_at_39 ?_
                             refine ri_ialdE h _ d_Md_at_40 (by first | assumption | exact hS.a25) (by first | rfl | assumption) (by first | assumption | omega) (by first | decide | omega) (by first | assumption | exact hm.i25 (by first | assumption | omega) | rfl) ?_
                             first | refine ri_icmpN_lt h 48 d_Md_at_41 (by decide) (by omega) (by omega) (fun c_41 => ?_) (fun c_41 => ?_) | refine ri_icmp_lt h 48 d_Md_at_41 (by decide) (fun c_41 => ?_) (fun c_41 => ?_)
                             · first
                               | (exfalso; first | exact absurd c_41 (by decide) | omega)
                               | (refine ri_iconstN h 0 d_Md_at_48 rfl ?_
                                  refine ri_pm_code h d_Md_at_49 fl_Md_108 hS (fun M hS => ?_)
                                  refine ri_ldcN h 144000 d_Md_at_52 kc_Md_191 rfl ?_
                                  refine ri_bipushN h 24 d_Md_at_54 rfl ?_
                                  refine ri_iload_n h d_Md_at_56 rfl ?_
                                  first | refine ri_imulN h d_Md_at_57 ?_ | refine ri_imul h d_Md_at_57 ?_
                                  first | refine ri_iaddN h d_Md_at_58 ?_ | refine ri_iadd h d_Md_at_58 ?_
                                  refine ri_iload_n h d_Md_at_59 rfl ?_
                                  first | refine ri_iaddN h d_Md_at_60 ?_ | refine ri_iadd h d_Md_at_60 ?_
                                  refine ri_istore h d_Md_at_61 (Nat.le_of_ble_eq_true rfl) ?_
                                  refine ri_aload_n h d_Md_at_63 rfl ?_
                                  refine ri_get h d_Md_at_64 fl_Md_108 (by first | assumption | exact hS.mo | exact gup_s) (by rfl) ?_
                                  try dsimp only [MS.code, MS.set_code]
                                  first | refine ri_ifN_le h 74 d_Md_at_67 (by decide) (by omega) (fun c_67 => ?_) (fun c_67 => ?_) | refine ri_if_le h 74 d_Md_at_67 (by decide) (fun c_67 => ?_) (fun c_67 => ?_)
                                  · first
                                    | (exfalso; first | exact absurd c_67 (by decide) | omega)
                                    | (refine ri_iload_n h d_Md_at_74 rfl ?_
                                       first | refine ri_ifB_ne h 88 d_Md_at_75 (by decide) (fun c_75 => ?_) (fun c_75 => ?_) | refine ri_ifN_ne h 88 d_Md_at_75 (by decide) (by omega) (fun c_75 => ?_) (fun c_75 => ?_) | refine ri_if_ne h 88 d_Md_at_75 (by decide) (fun c_75 => ?_) (fun c_75 => ?_)
                                       · first
                                         | (exfalso; first | exact absurd c_75 (by decide) | omega)
                                         | (refine ri_aload_n h d_Md_at_88 rfl ?_
                                            refine ri_get h d_Md_at_89 fl_Md_67 (by first | assumption | exact hS.mo | exact gup_s) (by rfl) ?_
                                            refine ri_iload h d_Md_at_92 rfl ?_
                                            refine ri_laldE h _ d_Md_at_94 (by first | assumption | exact hS.a23) (by first | rfl | assumption) (by first | assumption | omega) (by first | decide | omega) (by first | assumption | exact hm.i23 (by first | assumption | omega) (by first | assumption | omega) | rfl) ?_
                                            refine ri_lreturn h d_Md_at_95 (Nat.le_of_ble_eq_true rfl) (Nat.le_of_ble_eq_true rfl) ?_
                                            exact ⟨rfl, _, hS, rfl⟩)
                                       · first
                                         | (exfalso; first | exact absurd c_75 (by decide) | omega)
                                         | (refine ri_aload_n h d_Md_at_78 rfl ?_
                                            refine ri_get h d_Md_at_79 fl_Md_64 (by first | assumption | exact hS.mo | exact gup_s) (by rfl) ?_
                                            refine ri_iload h d_Md_at_82 rfl ?_
                                            refine ri_laldE h _ d_Md_at_84 (by first | assumption | exact hS.a22) (by first | rfl | assumption) (by first | assumption | omega) (by first | decide | omega) (by first | assumption | exact hm.i22 (by first | assumption | omega) (by first | assumption | omega) | rfl) ?_
                                            refine ri_goto h 95 d_Md_at_85 (by decide) ?_
                                            refine ri_lreturn h d_Md_at_95 (Nat.le_of_ble_eq_true rfl) (Nat.le_of_ble_eq_true rfl) ?_
                                            exact ⟨rfl, _, hS, rfl⟩))
                                  · first
                                    | (exfalso; first | exact absurd c_67 (by decide) | omega)
                                    | (refine ri_lconst h 0 d_Md_at_70 rfl ?_
                                       refine ri_goto h 95 d_Md_at_71 (by decide) ?_
                                       refine ri_lreturn h d_Md_at_95 (Nat.le_of_ble_eq_true rfl) (Nat.le_of_ble_eq_true rfl) ?_
                                       exact ⟨rfl, _, hS, rfl⟩))
                             · first
                               | (exfalso; first | exact absurd c_41 (by decide) | omega)
                               | (refine ri_iconstN h 1 d_Md_at_44 rfl ?_
                                  refine ri_goto h 49 d_Md_at_45 (by decide) ?_
                                  refine ri_pm_code h d_Md_at_49 fl_Md_108 hS (fun M hS => ?_)
                                  refine ri_ldcN h 144000 d_Md_at_52 kc_Md_191 rfl ?_
                                  refine ri_bipushN h 24 d_Md_at_54 rfl ?_
                                  refine ri_iload_n h d_Md_at_56 rfl ?_
                                  first | refine ri_imulN h d_Md_at_57 ?_ | refine ri_imul h d_Md_at_57 ?_
                                  first | refine ri_iaddN h d_Md_at_58 ?_ | refine ri_iadd h d_Md_at_58 ?_
                                  refine ri_iload_n h d_Md_at_59 rfl ?_
                                  first | refine ri_iaddN h d_Md_at_60 ?_ | refine ri_iadd h d_Md_at_60 ?_
                                  refine ri_istore h d_Md_at_61 (Nat.le_of_ble_eq_true rfl) ?_
                                  refine ri_aload_n h d_Md_at_63 rfl ?_
                                  refine ri_get h d_Md_at_64 fl_Md_108 (by first | assumption | exact hS.mo | exact gup_s) (by rfl) ?_
                                  try dsimp only [MS.code, MS.set_code]
                                  first | refine ri_ifN_le h 74 d_Md_at_67 (by decide) (by omega) (fun c_67 => ?_) (fun c_67 => ?_) | refine ri_if_le h 74 d_Md_at_67 (by decide) (fun c_67 => ?_) (fun c_67 => ?_)
                                  · first
                                    | (exfalso; first | exact absurd c_67 (by decide) | omega)
                                    | (refine ri_iload_n h d_Md_at_74 rfl ?_
                                       first | refine ri_ifB_ne h 88 d_Md_at_75 (by decide) (fun c_75 => ?_) (fun c_75 => ?_) | refine ri_ifN_ne h 88 d_Md_at_75 (by decide) (by omega) (fun c_75 => ?_) (fun c_75 => ?_) | refine ri_if_ne h 88 d_Md_at_75 (by decide) (fun c_75 => ?_) (fun c_75 => ?_)
                                       · first
                                         | (exfalso; first | exact absurd c_75 (by decide) | omega)
                                         | (refine ri_aload_n h d_Md_at_88 rfl ?_
                                            refine ri_get h d_Md_at_89 fl_Md_67 (by first | assumption | exact hS.mo | exact gup_s) (by rfl) ?_
                                            refine ri_iload h d_Md_at_92 rfl ?_
                                            refine ri_laldE h _ d_Md_at_94 (by first | assumption | exact hS.a23) (by first | rfl | assumption) (by first | assumption | omega) (by first | decide | omega) (by first | assumption | exact hm.i23 (by first | assumption | omega) (by first | assumption | omega) | rfl) ?_
                                            refine ri_lreturn h d_Md_at_95 (Nat.le_of_ble_eq_true rfl) (Nat.le_of_ble_eq_true rfl) ?_
                                            exact ⟨rfl, _, hS, rfl⟩)
                                       · first
                                         | (exfalso; first | exact absurd c_75 (by decide) | omega)
                                         | (refine ri_aload_n h d_Md_at_78 rfl ?_
                                            refine ri_get h d_Md_at_79 fl_Md_64 (by first | assumption | exact hS.mo | exact gup_s) (by rfl) ?_
                                            refine ri_iload h d_Md_at_82 rfl ?_
                                            refine ri_laldE h _ d_Md_at_84 (by first | assumption | exact hS.a22) (by first | rfl | assumption) (by first | assumption | omega) (by first | decide | omega) (by first | assumption | exact hm.i22 (by first | assumption | omega) (by first | assumption | omega) | rfl) ?_
                                            refine ri_goto h 95 d_Md_at_85 (by decide) ?_
                                            refine ri_lreturn h d_Md_at_95 (Nat.le_of_ble_eq_true rfl) (Nat.le_of_ble_eq_true rfl) ?_
                                            exact ⟨rfl, _, hS, rfl⟩))
                                  · first
                                    | (exfalso; first | exact absurd c_67 (by decide) | omega)
                                    | (refine ri_lconst h 0 d_Md_at_70 rfl ?_
                                       refine ri_goto h 95 d_Md_at_71 (by decide) ?_
                                       refine ri_lreturn h d_Md_at_95 (Nat.le_of_ble_eq_true rfl) (Nat.le_of_ble_eq_true rfl) ?_
                                       exact ⟨rfl, _, hS, rfl⟩))))
                   · first
                     | (exfalso; first | exact absurd c_19 (by decide) | omega)
                     | (refine ri_iconstN h 1 d_Md_at_22 rfl ?_
                        refine ri_goto h 49 d_Md_at_23 (by decide) ?_
                        refine ri_pm_code h d_Md_at_49 fl_Md_108 hS (fun M hS => ?_)
                        refine ri_ldcN h 144000 d_Md_at_52 kc_Md_191 rfl ?_
                        refine ri_bipushN h 24 d_Md_at_54 rfl ?_
                        refine ri_iload_n h d_Md_at_56 rfl ?_
                        first | refine ri_imulN h d_Md_at_57 ?_ | refine ri_imul h d_Md_at_57 ?_
                        first | refine ri_iaddN h d_Md_at_58 ?_ | refine ri_iadd h d_Md_at_58 ?_
                        refine ri_iload_n h d_Md_at_59 rfl ?_
                        first | refine ri_iaddN h d_Md_at_60 ?_ | refine ri_iadd h d_Md_at_60 ?_
                        refine ri_istore h d_Md_at_61 (Nat.le_of_ble_eq_true rfl) ?_
                        refine ri_aload_n h d_Md_at_63 rfl ?_
                        refine ri_get h d_Md_at_64 fl_Md_108 (by first | assumption | exact hS.mo | exact gup_s) (by rfl) ?_
                        try dsimp only [MS.code, MS.set_code]
                        first | refine ri_ifN_le h 74 d_Md_at_67 (by decide) (by omega) (fun c_67 => ?_) (fun c_67 => ?_) | refine ri_if_le h 74 d_Md_at_67 (by decide) (fun c_67 => ?_) (fun c_67 => ?_)
                        · first
                          | (exfalso; first | exact absurd c_67 (by decide) | omega)
                          | (refine ri_iload_n h d_Md_at_74 rfl ?_
                             first | refine ri_ifB_ne h 88 d_Md_at_75 (by decide) (fun c_75 => ?_) (fun c_75 => ?_) | refine ri_ifN_ne h 88 d_Md_at_75 (by decide) (by omega) (fun c_75 => ?_) (fun c_75 => ?_) | refine ri_if_ne h 88 d_Md_at_75 (by decide) (fun c_75 => ?_) (fun c_75 => ?_)
                             · first
                               | (exfalso; first | exact absurd c_75 (by decide) | omega)
                               | (refine ri_aload_n h d_Md_at_88 rfl ?_
                                  refine ri_get h d_Md_at_89 fl_Md_67 (by first | assumption | exact hS.mo | exact gup_s) (by rfl) ?_
                                  refine ri_iload h d_Md_at_92 rfl ?_
                                  refine ri_laldE h _ d_Md_at_94 (by first | assumption | exact hS.a23) (by first | rfl | assumption) (by first | assumption | omega) (by first | decide | omega) (by first | assumption | exact hm.i23 (by first | assumption | omega) (by first | assumption | omega) | rfl) ?_
                                  refine ri_lreturn h d_Md_at_95 (Nat.le_of_ble_eq_true rfl) (Nat.le_of_ble_eq_true rfl) ?_
                                  exact ⟨rfl, _, hS, rfl⟩)
                             · first
                               | (exfalso; first | exact absurd c_75 (by decide) | omega)
                               | (refine ri_aload_n h d_Md_at_78 rfl ?_
                                  refine ri_get h d_Md_at_79 fl_Md_64 (by first | assumption | exact hS.mo | exact gup_s) (by rfl) ?_
                                  refine ri_iload h d_Md_at_82 rfl ?_
                                  refine ri_laldE h _ d_Md_at_84 (by first | assumption | exact hS.a22) (by first | rfl | assumption) (by first | assumption | omega) (by first | decide | omega) (by first | assumption | exact hm.i22 (by first | assumption | omega) (by first | assumption | omega) | rfl) ?_
                                  refine ri_goto h 95 d_Md_at_85 (by decide) ?_
                                  refine ri_lreturn h d_Md_at_95 (Nat.le_of_ble_eq_true rfl) (Nat.le_of_ble_eq_true rfl) ?_
                                  exact ⟨rfl, _, hS, rfl⟩))
                        · first
                          | (exfalso; first | exact absurd c_67 (by decide) | omega)
                          | (refine ri_lconst h 0 d_Md_at_70 rfl ?_
                             refine ri_goto h 95 d_Md_at_71 (by decide) ?_
                             refine ri_lreturn h d_Md_at_95 (Nat.le_of_ble_eq_true rfl) (Nat.le_of_ble_eq_true rfl) ?_
                             exact ⟨rfl, _, hS, rfl⟩)))))
  · refine ri_aload_n h d_Md_at_0 rfl ?_
    refine ri_iload_n h d_Md_at_1 rfl ?_
    refine ri_ifM_lt h 22 d_Md_at_2 (by decide) (by omega) (fun c_2 => ?_) (fun c_2 => ?_)
    · exact c_2.elim
    · first
      | (exfalso; first | exact absurd c_2 (by decide) | omega)
      | (refine ri_iload_n h d_Md_at_5 rfl ?_
         refine ri_aload_n h d_Md_at_6 rfl ?_
         refine ri_get h d_Md_at_7 fl_Md_188 (by first | assumption | exact hS.mo | exact gup_s) (by rfl) ?_
         first | refine ri_icmpN_ge h 22 d_Md_at_10 (by decide) (by omega) (by omega) (fun c_10 => ?_) (fun c_10 => ?_) | refine ri_icmp_ge h 22 d_Md_at_10 (by decide) (fun c_10 => ?_) (fun c_10 => ?_)
         · first
           | (exfalso; first | exact absurd c_10 (by decide) | omega)
           | (refine ri_iconstN h 1 d_Md_at_22 rfl ?_
              refine ri_goto h 49 d_Md_at_23 (by decide) ?_
              refine ri_pm_code h d_Md_at_49 fl_Md_108 hS (fun M hS => ?_)
              refine ri_ldcN h 144000 d_Md_at_52 kc_Md_191 rfl ?_
              refine ri_bipushN h 24 d_Md_at_54 rfl ?_
              refine ri_iload_n h d_Md_at_56 rfl ?_
              first | refine ri_imulN h d_Md_at_57 ?_ | refine ri_imul h d_Md_at_57 ?_
              first | refine ri_iaddN h d_Md_at_58 ?_ | refine ri_iadd h d_Md_at_58 ?_
              refine ri_iload_n h d_Md_at_59 rfl ?_
              first | refine ri_iaddN h d_Md_at_60 ?_ | refine ri_iadd h d_Md_at_60 ?_
              refine ri_istore h d_Md_at_61 (Nat.le_of_ble_eq_true rfl) ?_
              refine ri_aload_n h d_Md_at_63 rfl ?_
              refine ri_get h d_Md_at_64 fl_Md_108 (by first | assumption | exact hS.mo | exact gup_s) (by rfl) ?_
              try dsimp only [MS.code, MS.set_code]
              first | refine ri_ifN_le h 74 d_Md_at_67 (by decide) (by omega) (fun c_67 => ?_) (fun c_67 => ?_) | refine ri_if_le h 74 d_Md_at_67 (by decide) (fun c_67 => ?_) (fun c_67 => ?_)
              · first
                | (exfalso; first | exact absurd c_67 (by decide) | omega)
                | (refine ri_iload_n h d_Md_at_74 rfl ?_
                   first | refine ri_ifB_ne h 88 d_Md_at_75 (by decide) (fun c_75 => ?_) (fun c_75 => ?_) | refine ri_ifN_ne h 88 d_Md_at_75 (by decide) (by omega) (fun c_75 => ?_) (fun c_75 => ?_) | refine ri_if_ne h 88 d_Md_at_75 (by decide) (fun c_75 => ?_) (fun c_75 => ?_)
                   · first
                     | (exfalso; first | exact absurd c_75 (by decide) | omega)
                     | (refine ri_aload_n h d_Md_at_88 rfl ?_
                        refine ri_get h d_Md_at_89 fl_Md_67 (by first | assumption | exact hS.mo | exact gup_s) (by rfl) ?_
                        refine ri_iload h d_Md_at_92 rfl ?_
                        refine ri_laldE h _ d_Md_at_94 (by first | assumption | exact hS.a23) (by first | rfl | assumption) (by first | assumption | omega) (by first | decide | omega) (by first | assumption | exact hm.i23 (by first | assumption | omega) (by first | assumption | omega) | rfl) ?_
                        refine ri_lreturn h d_Md_at_95 (Nat.le_of_ble_eq_true rfl) (Nat.le_of_ble_eq_true rfl) ?_
                        exact ⟨rfl, _, hS, rfl⟩)
                   · first
                     | (exfalso; first | exact absurd c_75 (by decide) | omega)
                     | (refine ri_aload_n h d_Md_at_78 rfl ?_
                        refine ri_get h d_Md_at_79 fl_Md_64 (by first | assumption | exact hS.mo | exact gup_s) (by rfl) ?_
                        refine ri_iload h d_Md_at_82 rfl ?_
                        refine ri_laldE h _ d_Md_at_84 (by first | assumption | exact hS.a22) (by first | rfl | assumption) (by first | assumption | omega) (by first | decide | omega) (by first | assumption | exact hm.i22 (by first | assumption | omega) (by first | assumption | omega) | rfl) ?_
                        refine ri_goto h 95 d_Md_at_85 (by decide) ?_
                        refine ri_lreturn h d_Md_at_95 (Nat.le_of_ble_eq_true rfl) (Nat.le_of_ble_eq_true rfl) ?_
                        exact ⟨rfl, _, hS, rfl⟩))
              · first
                | (exfalso; first | exact absurd c_67 (by decide) | omega)
                | (refine ri_lconst h 0 d_Md_at_70 rfl ?_
                   refine ri_goto h 95 d_Md_at_71 (by decide) ?_
                   refine ri_lreturn h d_Md_at_95 (Nat.le_of_ble_eq_true rfl) (Nat.le_of_ble_eq_true rfl) ?_
                   exact ⟨rfl, _, hS, rfl⟩))
         · first
           | (exfalso; first | exact absurd c_10 (by decide) | omega)
           | (refine ri_iload_n h d_Md_at_13 rfl ?_
              refine ri_ifM_lt h 22 d_Md_at_14 (by decide) (by omega) (fun c_14 => ?_) (fun c_14 => ?_)
              · exact c_14.elim
              · first
                | (exfalso; first | exact absurd c_14 (by decide) | omega)
                | (refine ri_iload_n h d_Md_at_17 rfl ?_
                   refine ri_iconstN h 1 d_Md_at_18 rfl ?_
                   first | refine ri_icmpN_le h 26 d_Md_at_19 (by decide) (by omega) (by omega) (fun c_19 => ?_) (fun c_19 => ?_) | refine ri_icmp_le h 26 d_Md_at_19 (by decide) (fun c_19 => ?_) (fun c_19 => ?_)
                   · first
                     | (exfalso; first | exact absurd c_19 (by decide) | omega)
                     | (refine ri_iload_n h d_Md_at_26 rfl ?_
                        refine ri_ifM_lt h 44 d_Md_at_27 (by decide) (by omega) (fun c_27 => ?_) (fun c_27 => ?_)
                        · exact c_27.elim
                        · first
                          | (exfalso; first | exact absurd c_27 (by decide) | omega)
                          | (refine ri_iload_n h d_Md_at_30 rfl ?_
                             refine ri_aload_n h d_Md_at_31 rfl ?_
                             refine ri_get h d_Md_at_32 fl_Md_73 (by first | assumption | exact hS.mo | exact gup_s) (by rfl) ?_
                             refine ri_sipushN h 6000 d_Md_at_35 rfl ?_
                             refine ri_iload_n h d_Md_at_38 rfl ?_
                             first | refine ri_iaddN h d_Md_at_39 ?_ | refine ri_iadd h d_Md_at_39 ?_
                             refine ri_ialdE h _ d_Md_at_40 (by first | assumption | exact hS.a25) (by first | rfl | assumption) (by first | assumption | omega) (by first | decide | omega) (by first | assumption | exact hm.i25 (by first | assumption | omega) | rfl) ?_
                             first | refine ri_icmpN_lt h 48 d_Md_at_41 (by decide) (by omega) (by omega) (fun c_41 => ?_) (fun c_41 => ?_) | refine ri_icmp_lt h 48 d_Md_at_41 (by decide) (fun c_41 => ?_) (fun c_41 => ?_)
                             · first
                               | (exfalso; first | exact absurd c_41 (by decide) | omega)
                               | (refine ri_iconstN h 0 d_Md_at_48 rfl ?_
                                  refine ri_pm_code h d_Md_at_49 fl_Md_108 hS (fun M hS => ?_)
                                  refine ri_ldcN h 144000 d_Md_at_52 kc_Md_191 rfl ?_
                                  refine ri_bipushN h 24 d_Md_at_54 rfl ?_
                                  refine ri_iload_n h d_Md_at_56 rfl ?_
                                  first | refine ri_imulN h d_Md_at_57 ?_ | refine ri_imul h d_Md_at_57 ?_
                                  first | refine ri_iaddN h d_Md_at_58 ?_ | refine ri_iadd h d_Md_at_58 ?_
                                  refine ri_iload_n h d_Md_at_59 rfl ?_
                                  first | refine ri_iaddN h d_Md_at_60 ?_ | refine ri_iadd h d_Md_at_60 ?_
                                  refine ri_istore h d_Md_at_61 (Nat.le_of_ble_eq_true rfl) ?_
                                  refine ri_aload_n h d_Md_at_63 rfl ?_
                                  refine ri_get h d_Md_at_64 fl_Md_108 (by first | assumption | exact hS.mo | exact gup_s) (by rfl) ?_
                                  try dsimp only [MS.code, MS.set_code]
                                  first | refine ri_ifN_le h 74 d_Md_at_67 (by decide) (by omega) (fun c_67 => ?_) (fun c_67 => ?_) | refine ri_if_le h 74 d_Md_at_67 (by decide) (fun c_67 => ?_) (fun c_67 => ?_)
                                  · first
                                    | (exfalso; first | exact absurd c_67 (by decide) | omega)
                                    | (refine ri_iload_n h d_Md_at_74 rfl ?_
                                       first | refine ri_ifB_ne h 88 d_Md_at_75 (by decide) (fun c_75 => ?_) (fun c_75 => ?_) | refine ri_ifN_ne h 88 d_Md_at_75 (by decide) (by omega) (fun c_75 => ?_) (fun c_75 => ?_) | refine ri_if_ne h 88 d_Md_at_75 (by decide) (fun c_75 => ?_) (fun c_75 => ?_)
                                       · first
                                         | (exfalso; first | exact absurd c_75 (by decide) | omega)
                                         | (refine ri_aload_n h d_Md_at_88 rfl ?_
                                            refine ri_get h d_Md_at_89 fl_Md_67 (by first | assumption | exact hS.mo | exact gup_s) (by rfl) ?_
                                            refine ri_iload h d_Md_at_92 rfl ?_
                                            refine ri_laldE h _ d_Md_at_94 (by first | assumption | exact hS.a23) (by first | rfl | assumption) (by first | assumption | omega) (by first | decide | omega) (by first | assumption | exact hm.i23 (by first | assumption | omega) (by first | assumption | omega) | rfl) ?_
                                            refine ri_lreturn h d_Md_at_95 (Nat.le_of_ble_eq_true rfl) (Nat.le_of_ble_eq_true rfl) ?_
                                            exact ⟨rfl, _, hS, rfl⟩)
                                       · first
                                         | (exfalso; first | exact absurd c_75 (by decide) | omega)
                                         | (refine ri_aload_n h d_Md_at_78 rfl ?_
                                            refine ri_get h d_Md_at_79 fl_Md_64 (by first | assumption | exact hS.mo | exact gup_s) (by rfl) ?_
                                            refine ri_iload h d_Md_at_82 rfl ?_
                                            refine ri_laldE h _ d_Md_at_84 (by first | assumption | exact hS.a22) (by first | rfl | assumption) (by first | assumption | omega) (by first | decide | omega) (by first | assumption | exact hm.i22 (by first | assumption | omega) (by first | assumption | omega) | rfl) ?_
                                            refine ri_goto h 95 d_Md_at_85 (by decide) ?_
                                            refine ri_lreturn h d_Md_at_95 (Nat.le_of_ble_eq_true rfl) (Nat.le_of_ble_eq_true rfl) ?_
                                            exact ⟨rfl, _, hS, rfl⟩))
                                  · first
                                    | (exfalso; first | exact absurd c_67 (by decide) | omega)
                                    | (refine ri_lconst h 0 d_Md_at_70 rfl ?_
                                       refine ri_goto h 95 d_Md_at_71 (by decide) ?_
                                       refine ri_lreturn h d_Md_at_95 (Nat.le_of_ble_eq_true rfl) (Nat.le_of_ble_eq_true rfl) ?_
                                       exact ⟨rfl, _, hS, rfl⟩))
                             · first
                               | (exfalso; first | exact absurd c_41 (by decide) | omega)
                               | (refine ri_iconstN h 1 d_Md_at_44 rfl ?_
                                  refine ri_goto h 49 d_Md_at_45 (by decide) ?_
                                  refine ri_pm_code h d_Md_at_49 fl_Md_108 hS (fun M hS => ?_)
                                  refine ri_ldcN h 144000 d_Md_at_52 kc_Md_191 rfl ?_
                                  refine ri_bipushN h 24 d_Md_at_54 rfl ?_
                                  refine ri_iload_n h d_Md_at_56 rfl ?_
                                  first | refine ri_imulN h d_Md_at_57 ?_ | refine ri_imul h d_Md_at_57 ?_
                                  first | refine ri_iaddN h d_Md_at_58 ?_ | refine ri_iadd h d_Md_at_58 ?_
                                  refine ri_iload_n h d_Md_at_59 rfl ?_
                                  first | refine ri_iaddN h d_Md_at_60 ?_ | refine ri_iadd h d_Md_at_60 ?_
                                  refine ri_istore h d_Md_at_61 (Nat.le_of_ble_eq_true rfl) ?_
                                  refine ri_aload_n h d_Md_at_63 rfl ?_
                                  refine ri_get h d_Md_at_64 fl_Md_108 (by first | assumption | exact hS.mo | exact gup_s) (by rfl) ?_
                                  try dsimp only [MS.code, MS.set_code]
                                  first | refine ri_ifN_le h 74 d_Md_at_67 (by decide) (by omega) (fun c_67 => ?_) (fun c_67 => ?_) | refine ri_if_le h 74 d_Md_at_67 (by decide) (fun c_67 => ?_) (fun c_67 => ?_)
                                  · first
                                    | (exfalso; first | exact absurd c_67 (by decide) | omega)
                                    | (refine ri_iload_n h d_Md_at_74 rfl ?_
                                       first | refine ri_ifB_ne h 88 d_Md_at_75 (by decide) (fun c_75 => ?_) (fun c_75 => ?_) | refine ri_ifN_ne h 88 d_Md_at_75 (by decide) (by omega) (fun c_75 => ?_) (fun c_75 => ?_) | refine ri_if_ne h 88 d_Md_at_75 (by decide) (fun c_75 => ?_) (fun c_75 => ?_)
                                       · first
                                         | (exfalso; first | exact absurd c_75 (by decide) | omega)
                                         | (refine ri_aload_n h d_Md_at_88 rfl ?_
                                            refine ri_get h d_Md_at_89 fl_Md_67 (by first | assumption | exact hS.mo | exact gup_s) (by rfl) ?_
                                            refine ri_iload h d_Md_at_92 rfl ?_
                                            refine ri_laldE h _ d_Md_at_94 (by first | assumption | exact hS.a23) (by first | rfl | assumption) (by first | assumption | omega) (by first | decide | omega) (by first | assumption | exact hm.i23 (by first | assumption | omega) (by first | assumption | omega) | rfl) ?_
                                            refine ri_lreturn h d_Md_at_95 (Nat.le_of_ble_eq_true rfl) (Nat.le_of_ble_eq_true rfl) ?_
                                            exact ⟨rfl, _, hS, rfl⟩)
                                       · first
                                         | (exfalso; first | exact absurd c_75 (by decide) | omega)
                                         | (refine ri_aload_n h d_Md_at_78 rfl ?_
                                            refine ri_get h d_Md_at_79 fl_Md_64 (by first | assumption | exact hS.mo | exact gup_s) (by rfl) ?_
                                            refine ri_iload h d_Md_at_82 rfl ?_
                                            refine ri_laldE h _ d_Md_at_84 (by first | assumption | exact hS.a22) (by first | rfl | assumption) (by first | assumption | omega) (by first | decide | omega) (by first | assumption | exact hm.i22 (by first | assumption | omega) (by first | assumption | omega) | rfl) ?_
                                            refine ri_goto h 95 d_Md_at_85 (by decide) ?_
                                            refine ri_lreturn h d_Md_at_95 (Nat.le_of_ble_eq_true rfl) (Nat.le_of_ble_eq_true rfl) ?_
                                            exact ⟨rfl, _, hS, rfl⟩))
                                  · first
                                    | (exfalso; first | exact absurd c_67 (by decide) | omega)
                                    | (refine ri_lconst h 0 d_Md_at_70 rfl ?_
                                       refine ri_goto h 95 d_Md_at_71 (by decide) ?_
                                       refine ri_lreturn h d_Md_at_95 (Nat.le_of_ble_eq_true rfl) (Nat.le_of_ble_eq_true rfl) ?_
                                       exact ⟨rfl, _, hS, rfl⟩))))
                   · first
                     | (exfalso; first | exact absurd c_19 (by decide) | omega)
                     | (refine ri_iconstN h 1 d_Md_at_22 rfl ?_
                        refine ri_goto h 49 d_Md_at_23 (by decide) ?_
                        refine ri_pm_code h d_Md_at_49 fl_Md_108 hS (fun M hS => ?_)
                        refine ri_ldcN h 144000 d_Md_at_52 kc_Md_191 rfl ?_
                        refine ri_bipushN h 24 d_Md_at_54 rfl ?_
                        refine ri_iload_n h d_Md_at_56 rfl ?_
                        first | refine ri_imulN h d_Md_at_57 ?_ | refine ri_imul h d_Md_at_57 ?_
                        first | refine ri_iaddN h d_Md_at_58 ?_ | refine ri_iadd h d_Md_at_58 ?_
                        refine ri_iload_n h d_Md_at_59 rfl ?_
                        first | refine ri_iaddN h d_Md_at_60 ?_ | refine ri_iadd h d_Md_at_60 ?_
                        refine ri_istore h d_Md_at_61 (Nat.le_of_ble_eq_true rfl) ?_
                        refine ri_aload_n h d_Md_at_63 rfl ?_
                        refine ri_get h d_Md_at_64 fl_Md_108 (by first | assumption | exact hS.mo | exact gup_s) (by rfl) ?_
                        try dsimp only [MS.code, MS.set_code]
                        first | refine ri_ifN_le h 74 d_Md_at_67 (by decide) (by omega) (fun c_67 => ?_) (fun c_67 => ?_) | refine ri_if_le h 74 d_Md_at_67 (by decide) (fun c_67 => ?_) (fun c_67 => ?_)
                        · first
                          | (exfalso; first | exact absurd c_67 (by decide) | omega)
                          | (refine ri_iload_n h d_Md_at_74 rfl ?_
                             first | refine ri_ifB_ne h 88 d_Md_at_75 (by decide) (fun c_75 => ?_) (fun c_75 => ?_) | refine ri_ifN_ne h 88 d_Md_at_75 (by decide) (by omega) (fun c_75 => ?_) (fun c_75 => ?_) | refine ri_if_ne h 88 d_Md_at_75 (by decide) (fun c_75 => ?_) (fun c_75 => ?_)
                             · first
                               | (exfalso; first | exact absurd c_75 (by decide) | omega)
                               | (refine ri_aload_n h d_Md_at_88 rfl ?_
                                  refine ri_get h d_Md_at_89 fl_Md_67 (by first | assumption | exact hS.mo | exact gup_s) (by rfl) ?_
                                  refine ri_iload h d_Md_at_92 rfl ?_
                                  refine ri_laldE h _ d_Md_at_94 (by first | assumption | exact hS.a23) (by first | rfl | assumption) (by first | assumption | omega) (by first | decide | omega) (by first | assumption | exact hm.i23 (by first | assumption | omega) (by first | assumption | omega) | rfl) ?_
                                  refine ri_lreturn h d_Md_at_95 (Nat.le_of_ble_eq_true rfl) (Nat.le_of_ble_eq_true rfl) ?_
                                  exact ⟨rfl, _, hS, rfl⟩)
                             · first
                               | (exfalso; first | exact absurd c_75 (by decide) | omega)
                               | (refine ri_aload_n h d_Md_at_78 rfl ?_
                                  refine ri_get h d_Md_at_79 fl_Md_64 (by first | assumption | exact hS.mo | exact gup_s) (by rfl) ?_
                                  refine ri_iload h d_Md_at_82 rfl ?_
                                  refine ri_laldE h _ d_Md_at_84 (by first | assumption | exact hS.a22) (by first | rfl | assumption) (by first | assumption | omega) (by first | decide | omega) (by first | assumption | exact hm.i22 (by first | assumption | omega) (by first | assumption | omega) | rfl) ?_
                                  refine ri_goto h 95 d_Md_at_85 (by decide) ?_
                                  refine ri_lreturn h d_Md_at_95 (Nat.le_of_ble_eq_true rfl) (Nat.le_of_ble_eq_true rfl) ?_
                                  exact ⟨rfl, _, hS, rfl⟩))
                        · first
                          | (exfalso; first | exact absurd c_67 (by decide) | omega)
                          | (refine ri_lconst h 0 d_Md_at_70 rfl ?_
                             refine ri_goto h 95 d_Md_at_71 (by decide) ?_
                             refine ri_lreturn h d_Md_at_95 (Nat.le_of_ble_eq_true rfl) (Nat.le_of_ble_eq_true rfl) ?_
                             exact ⟨rfl, _, hS, rfl⟩)))))
end ME2
