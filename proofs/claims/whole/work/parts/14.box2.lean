/-! turns; the other methods of Box -/
section TU
variable {l : Launch} {D : gD} {s0 : State} {M : gH} {a b : Nat} {x0 y0 x1 y1 : Int64} {n : Int32}
def tX (k : Nat) (x y : Int64) : Int64 := match k with
  | 0 => x | 4 => x | 1 => -y | 7 => -y | 2 => -x | 6 => -x | _ => y
def tY (k : Nat) (x y : Int64) : Int64 := match k with
  | 0 => y | 6 => y | 1 => x | 5 => x | 2 => -y | 4 => -y | _ => -x
theorem k_turnedX (h0 : g_0 l D s0) (k : Nat) (hk : k < 8) (x y : Int64) : Ct l D s0 y_ST_turnedX (Cond.code y_ST_turnedX b_ST_turnedX 5 (some .long)) (rk 0 0 0) [.int (nI k), .long x, .long y] M (fR (some (.long (tX k x y))) M) := by
  refine Ct.of h0 (by decide +kernel) rfl fun X hX h => ?_
  obtain ⟨p_, l', e_, R_, s_, m_, ar_, be_, me_, c_⟩ := X
  obtain rfl : l' = l := hX
  rcases (show k = 0 ∨ k = 1 ∨ k = 2 ∨ k = 3 ∨ k = 4 ∨ k = 5 ∨ k = 6 ∨ k = 7 by omega) with rfl | rfl | rfl | rfl | rfl | rfl | rfl | rfl
  · refine ri_iload_n h d_ST_turnedX_0 rfl ?_
    refine ri_tabIn h 48 d_ST_turnedX_1 (by decide) (by decide) (by rfl) (by decide) ?_
    refine ri_lload_n h d_ST_turnedX_48 rfl ?_
    refine ri_lreturn h d_ST_turnedX_49 (Nat.le_of_ble_eq_true rfl) (Nat.le_of_ble_eq_true rfl) ?_
    exact ⟨rfl, rfl⟩
  · refine ri_iload_n h d_ST_turnedX_0 rfl ?_
    refine ri_tabIn h 50 d_ST_turnedX_1 (by decide) (by decide) (by rfl) (by decide) ?_
    refine ri_lload_n h d_ST_turnedX_50 rfl ?_
    refine ri_lneg h d_ST_turnedX_51 ?_
    refine ri_lreturn h d_ST_turnedX_52 (Nat.le_of_ble_eq_true rfl) (Nat.le_of_ble_eq_true rfl) ?_
    exact ⟨rfl, rfl⟩
  · refine ri_iload_n h d_ST_turnedX_0 rfl ?_
    refine ri_tabIn h 53 d_ST_turnedX_1 (by decide) (by decide) (by rfl) (by decide) ?_
    refine ri_lload_n h d_ST_turnedX_53 rfl ?_
    refine ri_lneg h d_ST_turnedX_54 ?_
    refine ri_lreturn h d_ST_turnedX_55 (Nat.le_of_ble_eq_true rfl) (Nat.le_of_ble_eq_true rfl) ?_
    exact ⟨rfl, rfl⟩
  · refine ri_iload_n h d_ST_turnedX_0 rfl ?_
    refine ri_tabIn h 56 d_ST_turnedX_1 (by decide) (by decide) (by rfl) (by decide) ?_
    refine ri_lload_n h d_ST_turnedX_56 rfl ?_
    refine ri_lreturn h d_ST_turnedX_57 (Nat.le_of_ble_eq_true rfl) (Nat.le_of_ble_eq_true rfl) ?_
    exact ⟨rfl, rfl⟩
  · refine ri_iload_n h d_ST_turnedX_0 rfl ?_
    refine ri_tabIn h 48 d_ST_turnedX_1 (by decide) (by decide) (by rfl) (by decide) ?_
    refine ri_lload_n h d_ST_turnedX_48 rfl ?_
    refine ri_lreturn h d_ST_turnedX_49 (Nat.le_of_ble_eq_true rfl) (Nat.le_of_ble_eq_true rfl) ?_
    exact ⟨rfl, rfl⟩
  · refine ri_iload_n h d_ST_turnedX_0 rfl ?_
    refine ri_tabIn h 56 d_ST_turnedX_1 (by decide) (by decide) (by rfl) (by decide) ?_
    refine ri_lload_n h d_ST_turnedX_56 rfl ?_
    refine ri_lreturn h d_ST_turnedX_57 (Nat.le_of_ble_eq_true rfl) (Nat.le_of_ble_eq_true rfl) ?_
    exact ⟨rfl, rfl⟩
  · refine ri_iload_n h d_ST_turnedX_0 rfl ?_
    refine ri_tabIn h 53 d_ST_turnedX_1 (by decide) (by decide) (by rfl) (by decide) ?_
    refine ri_lload_n h d_ST_turnedX_53 rfl ?_
    refine ri_lneg h d_ST_turnedX_54 ?_
    refine ri_lreturn h d_ST_turnedX_55 (Nat.le_of_ble_eq_true rfl) (Nat.le_of_ble_eq_true rfl) ?_
    exact ⟨rfl, rfl⟩
  · refine ri_iload_n h d_ST_turnedX_0 rfl ?_
    refine ri_tabIn h 50 d_ST_turnedX_1 (by decide) (by decide) (by rfl) (by decide) ?_
    refine ri_lload_n h d_ST_turnedX_50 rfl ?_
    refine ri_lneg h d_ST_turnedX_51 ?_
    refine ri_lreturn h d_ST_turnedX_52 (Nat.le_of_ble_eq_true rfl) (Nat.le_of_ble_eq_true rfl) ?_
    exact ⟨rfl, rfl⟩
theorem k_turnedY (h0 : g_0 l D s0) (k : Nat) (hk : k < 8) (x y : Int64) : Ct l D s0 y_ST_turnedY (Cond.code y_ST_turnedY b_ST_turnedY 5 (some .long)) (rk 0 0 0) [.int (nI k), .long x, .long y] M (fR (some (.long (tY k x y))) M) := by
  refine Ct.of h0 (by decide +kernel) rfl fun X hX h => ?_
  obtain ⟨p_, l', e_, R_, s_, m_, ar_, be_, me_, c_⟩ := X
  obtain rfl : l' = l := hX
  rcases (show k = 0 ∨ k = 1 ∨ k = 2 ∨ k = 3 ∨ k = 4 ∨ k = 5 ∨ k = 6 ∨ k = 7 by omega) with rfl | rfl | rfl | rfl | rfl | rfl | rfl | rfl
  · refine ri_iload_n h d_ST_turnedY_0 rfl ?_
    refine ri_tabIn h 44 d_ST_turnedY_1 (by decide) (by decide) (by rfl) (by decide) ?_
    refine ri_lload_n h d_ST_turnedY_44 rfl ?_
    refine ri_lreturn h d_ST_turnedY_45 (Nat.le_of_ble_eq_true rfl) (Nat.le_of_ble_eq_true rfl) ?_
    exact ⟨rfl, rfl⟩
  · refine ri_iload_n h d_ST_turnedY_0 rfl ?_
    refine ri_tabIn h 46 d_ST_turnedY_1 (by decide) (by decide) (by rfl) (by decide) ?_
    refine ri_lload_n h d_ST_turnedY_46 rfl ?_
    refine ri_lreturn h d_ST_turnedY_47 (Nat.le_of_ble_eq_true rfl) (Nat.le_of_ble_eq_true rfl) ?_
    exact ⟨rfl, rfl⟩
  · refine ri_iload_n h d_ST_turnedY_0 rfl ?_
    refine ri_tabIn h 48 d_ST_turnedY_1 (by decide) (by decide) (by rfl) (by decide) ?_
    refine ri_lload_n h d_ST_turnedY_48 rfl ?_
    refine ri_lneg h d_ST_turnedY_49 ?_
    refine ri_lreturn h d_ST_turnedY_50 (Nat.le_of_ble_eq_true rfl) (Nat.le_of_ble_eq_true rfl) ?_
    exact ⟨rfl, rfl⟩
  · refine ri_iload_n h d_ST_turnedY_0 rfl ?_
    refine ri_tabIn h 51 d_ST_turnedY_1 (by decide) (by decide) (by rfl) (by decide) ?_
    refine ri_lload_n h d_ST_turnedY_51 rfl ?_
    refine ri_lneg h d_ST_turnedY_52 ?_
    refine ri_lreturn h d_ST_turnedY_53 (Nat.le_of_ble_eq_true rfl) (Nat.le_of_ble_eq_true rfl) ?_
    exact ⟨rfl, rfl⟩
  · refine ri_iload_n h d_ST_turnedY_0 rfl ?_
    refine ri_tabIn h 48 d_ST_turnedY_1 (by decide) (by decide) (by rfl) (by decide) ?_
    refine ri_lload_n h d_ST_turnedY_48 rfl ?_
    refine ri_lneg h d_ST_turnedY_49 ?_
    refine ri_lreturn h d_ST_turnedY_50 (Nat.le_of_ble_eq_true rfl) (Nat.le_of_ble_eq_true rfl) ?_
    exact ⟨rfl, rfl⟩
  · refine ri_iload_n h d_ST_turnedY_0 rfl ?_
    refine ri_tabIn h 46 d_ST_turnedY_1 (by decide) (by decide) (by rfl) (by decide) ?_
    refine ri_lload_n h d_ST_turnedY_46 rfl ?_
    refine ri_lreturn h d_ST_turnedY_47 (Nat.le_of_ble_eq_true rfl) (Nat.le_of_ble_eq_true rfl) ?_
    exact ⟨rfl, rfl⟩
  · refine ri_iload_n h d_ST_turnedY_0 rfl ?_
    refine ri_tabIn h 44 d_ST_turnedY_1 (by decide) (by decide) (by rfl) (by decide) ?_
    refine ri_lload_n h d_ST_turnedY_44 rfl ?_
    refine ri_lreturn h d_ST_turnedY_45 (Nat.le_of_ble_eq_true rfl) (Nat.le_of_ble_eq_true rfl) ?_
    exact ⟨rfl, rfl⟩
  · refine ri_iload_n h d_ST_turnedY_0 rfl ?_
    refine ri_tabOut h 51 d_ST_turnedY_1 (Or.inr (by decide)) (by decide) ?_
    refine ri_lload_n h d_ST_turnedY_51 rfl ?_
    refine ri_lneg h d_ST_turnedY_52 ?_
    refine ri_lreturn h d_ST_turnedY_53 (Nat.le_of_ble_eq_true rfl) (Nat.le_of_ble_eq_true rfl) ?_
    exact ⟨rfl, rfl⟩
theorem k_Bx_holdBox (h0 : g_0 l D s0) {p0 q0 p1 q1 : Int64} {n2 : Int32} (hM : M a = some (bx x0 y0 x1 y1 n)) (hb : M b = some (bx p0 q0 p1 q1 n2)) : Ct l D s0 y_Bx_holdBox (Cond.code y_Bx_holdBox b_Bx_holdBox 2 none) (rk 2 0 0) [.ref a, .ref b] M (fR none (gup M a (bx (hmin n x0 p0) (hmin n y0 q0) (hmax n x1 p1) (hmax n y1 q1) 0))) := by
  refine Ct.of h0 (by decide +kernel) rfl fun X hX h => ?_
  obtain ⟨p_, l', e_, R_, s_, m_, ar_, be_, me_, c_⟩ := X
  obtain rfl : l' = l := hX
  refine ri_aload_n h d_Bx_holdBox_0 rfl ?_
  refine ri_aload_n h d_Bx_holdBox_1 rfl ?_
  refine ri_get h d_Bx_holdBox_2 fl_Bx_13 (by first | assumption | exact gup_s | (refine gup_t (by assumption) ?_; first | assumption | exact gup_s | (refine gup_t (by assumption) ?_; first | assumption | exact gup_s | (refine gup_t (by assumption) ?_; first | assumption | exact gup_s)))) (by rfl) ?_
  refine ri_aload_n h d_Bx_holdBox_5 rfl ?_
  refine ri_get h d_Bx_holdBox_6 fl_Bx_23 (by first | assumption | exact gup_s | (refine gup_t (by assumption) ?_; first | assumption | exact gup_s | (refine gup_t (by assumption) ?_; first | assumption | exact gup_s | (refine gup_t (by assumption) ?_; first | assumption | exact gup_s)))) (by rfl) ?_
  refine ri_aload_n h d_Bx_holdBox_9 rfl ?_
  refine ri_get h d_Bx_holdBox_10 fl_Bx_26 (by first | assumption | exact gup_s | (refine gup_t (by assumption) ?_; first | assumption | exact gup_s | (refine gup_t (by assumption) ?_; first | assumption | exact gup_s | (refine gup_t (by assumption) ?_; first | assumption | exact gup_s)))) (by rfl) ?_
  refine ri_aload_n h d_Bx_holdBox_13 rfl ?_
  refine ri_get h d_Bx_holdBox_14 fl_Bx_32 (by first | assumption | exact gup_s | (refine gup_t (by assumption) ?_; first | assumption | exact gup_s | (refine gup_t (by assumption) ?_; first | assumption | exact gup_s | (refine gup_t (by assumption) ?_; first | assumption | exact gup_s)))) (by rfl) ?_
  refine ri_cV0 (r := (gR0, gT0, 5)) h [.long p0, .long q0, .long p1, .long q1] [] d_Bx_holdBox_17 cv_Bx_35 (by first | assumption | exact gup_s | (refine gup_t (by assumption) ?_; first | assumption | exact gup_s | (refine gup_t (by assumption) ?_; first | assumption | exact gup_s | (refine gup_t (by assumption) ?_; first | assumption | exact gup_s)))) rfl (k_Bx_hold h0 hM p0 q0 p1 q1) rfl rfl (Nat.le_of_ble_eq_true rfl) (Nat.le_of_ble_eq_true rfl) (Nat.le_of_ble_eq_true rfl) (Nat.le_of_ble_eq_true rfl) (Nat.le_of_ble_eq_true rfl) ?_
  refine ri_return h d_Bx_holdBox_20 (Nat.le_of_ble_eq_true rfl) (Nat.le_of_ble_eq_true rfl) ?_
  exact ⟨rfl, rfl⟩
theorem k_Bx_stretch (h0 : g_0 l D s0) (hM : M a = some (bx x0 y0 x1 y1 n)) (u v : Int64) : Ct l D s0 y_Bx_stretch (Cond.code y_Bx_stretch b_Bx_stretch 5 none) (rk 2 0 0) [.ref a, .long u, .long v] M (fR none (gup M a (bx (hmin n x0 (x0 + u)) (hmin n y0 (y0 + v)) (hmax n x1 (x1 + u)) (hmax n y1 (y1 + v)) 0))) := by
  refine Ct.of h0 (by decide +kernel) rfl fun X hX h => ?_
  obtain ⟨p_, l', e_, R_, s_, m_, ar_, be_, me_, c_⟩ := X
  obtain rfl : l' = l := hX
  refine ri_aload_n h d_Bx_stretch_0 rfl ?_
  refine ri_aload_n h d_Bx_stretch_1 rfl ?_
  refine ri_get h d_Bx_stretch_2 fl_Bx_13 (by first | assumption | exact gup_s | (refine gup_t (by assumption) ?_; first | assumption | exact gup_s | (refine gup_t (by assumption) ?_; first | assumption | exact gup_s | (refine gup_t (by assumption) ?_; first | assumption | exact gup_s)))) (by rfl) ?_
  refine ri_lload_n h d_Bx_stretch_5 rfl ?_
  refine ri_ladd h d_Bx_stretch_6 ?_
  refine ri_aload_n h d_Bx_stretch_7 rfl ?_
  refine ri_get h d_Bx_stretch_8 fl_Bx_23 (by first | assumption | exact gup_s | (refine gup_t (by assumption) ?_; first | assumption | exact gup_s | (refine gup_t (by assumption) ?_; first | assumption | exact gup_s | (refine gup_t (by assumption) ?_; first | assumption | exact gup_s)))) (by rfl) ?_
  refine ri_lload_n h d_Bx_stretch_11 rfl ?_
  refine ri_ladd h d_Bx_stretch_12 ?_
  refine ri_aload_n h d_Bx_stretch_13 rfl ?_
  refine ri_get h d_Bx_stretch_14 fl_Bx_26 (by first | assumption | exact gup_s | (refine gup_t (by assumption) ?_; first | assumption | exact gup_s | (refine gup_t (by assumption) ?_; first | assumption | exact gup_s | (refine gup_t (by assumption) ?_; first | assumption | exact gup_s)))) (by rfl) ?_
  refine ri_lload_n h d_Bx_stretch_17 rfl ?_
  refine ri_ladd h d_Bx_stretch_18 ?_
  refine ri_aload_n h d_Bx_stretch_19 rfl ?_
  refine ri_get h d_Bx_stretch_20 fl_Bx_32 (by first | assumption | exact gup_s | (refine gup_t (by assumption) ?_; first | assumption | exact gup_s | (refine gup_t (by assumption) ?_; first | assumption | exact gup_s | (refine gup_t (by assumption) ?_; first | assumption | exact gup_s)))) (by rfl) ?_
  refine ri_lload_n h d_Bx_stretch_23 rfl ?_
  refine ri_ladd h d_Bx_stretch_24 ?_
  refine ri_cV0 (r := (gR0, gT0, 5)) h [.long (x0 + u), .long (y0 + v), .long (x1 + u), .long (y1 + v)] [] d_Bx_stretch_25 cv_Bx_35 (by first | assumption | exact gup_s | (refine gup_t (by assumption) ?_; first | assumption | exact gup_s | (refine gup_t (by assumption) ?_; first | assumption | exact gup_s | (refine gup_t (by assumption) ?_; first | assumption | exact gup_s)))) rfl (k_Bx_hold h0 hM _ _ _ _) rfl rfl (Nat.le_of_ble_eq_true rfl) (Nat.le_of_ble_eq_true rfl) (Nat.le_of_ble_eq_true rfl) (Nat.le_of_ble_eq_true rfl) (Nat.le_of_ble_eq_true rfl) ?_
  refine ri_return h d_Bx_stretch_28 (Nat.le_of_ble_eq_true rfl) (Nat.le_of_ble_eq_true rfl) ?_
  exact ⟨rfl, rfl⟩
theorem k_Bx_width (h0 : g_0 l D s0) (hM : M a = some (bx x0 y0 x1 y1 n)) : Ct l D s0 y_Bx_width (Cond.code y_Bx_width b_Bx_width 1 (some .long)) (rk 0 0 0) [.ref a] M (fR (some (.long (x1 - x0))) M) := by
  refine Ct.of h0 (by decide +kernel) rfl fun X hX h => ?_
  obtain ⟨p_, l', e_, R_, s_, m_, ar_, be_, me_, c_⟩ := X
  obtain rfl : l' = l := hX
  refine ri_aload_n h d_Bx_width_0 rfl ?_
  refine ri_get h d_Bx_width_1 fl_Bx_26 (by first | assumption | exact gup_s | (refine gup_t (by assumption) ?_; first | assumption | exact gup_s | (refine gup_t (by assumption) ?_; first | assumption | exact gup_s | (refine gup_t (by assumption) ?_; first | assumption | exact gup_s)))) (by rfl) ?_
  refine ri_aload_n h d_Bx_width_4 rfl ?_
  refine ri_get h d_Bx_width_5 fl_Bx_13 (by first | assumption | exact gup_s | (refine gup_t (by assumption) ?_; first | assumption | exact gup_s | (refine gup_t (by assumption) ?_; first | assumption | exact gup_s | (refine gup_t (by assumption) ?_; first | assumption | exact gup_s)))) (by rfl) ?_
  refine ri_lsub h d_Bx_width_8 ?_
  refine ri_lreturn h d_Bx_width_9 (Nat.le_of_ble_eq_true rfl) (Nat.le_of_ble_eq_true rfl) ?_
  exact ⟨rfl, rfl⟩
theorem k_Bx_height (h0 : g_0 l D s0) (hM : M a = some (bx x0 y0 x1 y1 n)) : Ct l D s0 y_Bx_height (Cond.code y_Bx_height b_Bx_height 1 (some .long)) (rk 0 0 0) [.ref a] M (fR (some (.long (y1 - y0))) M) := by
  refine Ct.of h0 (by decide +kernel) rfl fun X hX h => ?_
  obtain ⟨p_, l', e_, R_, s_, m_, ar_, be_, me_, c_⟩ := X
  obtain rfl : l' = l := hX
  refine ri_aload_n h d_Bx_height_0 rfl ?_
  refine ri_get h d_Bx_height_1 fl_Bx_32 (by first | assumption | exact gup_s | (refine gup_t (by assumption) ?_; first | assumption | exact gup_s | (refine gup_t (by assumption) ?_; first | assumption | exact gup_s | (refine gup_t (by assumption) ?_; first | assumption | exact gup_s)))) (by rfl) ?_
  refine ri_aload_n h d_Bx_height_4 rfl ?_
  refine ri_get h d_Bx_height_5 fl_Bx_23 (by first | assumption | exact gup_s | (refine gup_t (by assumption) ?_; first | assumption | exact gup_s | (refine gup_t (by assumption) ?_; first | assumption | exact gup_s | (refine gup_t (by assumption) ?_; first | assumption | exact gup_s)))) (by rfl) ?_
  refine ri_lsub h d_Bx_height_8 ?_
  refine ri_lreturn h d_Bx_height_9 (Nat.le_of_ble_eq_true rfl) (Nat.le_of_ble_eq_true rfl) ?_
  exact ⟨rfl, rfl⟩
def bside (k : Nat) (x0 y0 x1 y1 : Int64) : Int64 := match k with
  | 0 => x0 | 1 => y0 | 2 => x1 | _ => y1
theorem k_Bx_side (h0 : g_0 l D s0) (hM : M a = some (bx x0 y0 x1 y1 n)) (k : Nat) (hk : k < 4) : Ct l D s0 y_Bx_side (Cond.code y_Bx_side b_Bx_side 2 (some .long)) (rk 0 0 0) [.ref a, .int (nI k)] M (fR (some (.long (bside k x0 y0 x1 y1))) M) := by
  refine Ct.of h0 (by decide +kernel) rfl fun X hX h => ?_
  obtain ⟨p_, l', e_, R_, s_, m_, ar_, be_, me_, c_⟩ := X
  obtain rfl : l' = l := hX
  rcases (show k = 0 ∨ k = 1 ∨ k = 2 ∨ k = 3 by omega) with rfl | rfl | rfl | rfl
  · refine ri_iload_n h d_Bx_side_0 rfl ?_
    refine ri_tabIn h 28 d_Bx_side_1 (by decide) (by decide) (by rfl) (by decide) ?_
    refine ri_aload_n h d_Bx_side_28 rfl ?_
    refine ri_get h d_Bx_side_29 fl_Bx_13 (by first | assumption | exact gup_s | (refine gup_t (by assumption) ?_; first | assumption | exact gup_s | (refine gup_t (by assumption) ?_; first | assumption | exact gup_s | (refine gup_t (by assumption) ?_; first | assumption | exact gup_s)))) (by rfl) ?_
    refine ri_lreturn h d_Bx_side_32 (Nat.le_of_ble_eq_true rfl) (Nat.le_of_ble_eq_true rfl) ?_
    exact ⟨rfl, rfl⟩
  · refine ri_iload_n h d_Bx_side_0 rfl ?_
    refine ri_tabIn h 33 d_Bx_side_1 (by decide) (by decide) (by rfl) (by decide) ?_
    refine ri_aload_n h d_Bx_side_33 rfl ?_
    refine ri_get h d_Bx_side_34 fl_Bx_23 (by first | assumption | exact gup_s | (refine gup_t (by assumption) ?_; first | assumption | exact gup_s | (refine gup_t (by assumption) ?_; first | assumption | exact gup_s | (refine gup_t (by assumption) ?_; first | assumption | exact gup_s)))) (by rfl) ?_
    refine ri_lreturn h d_Bx_side_37 (Nat.le_of_ble_eq_true rfl) (Nat.le_of_ble_eq_true rfl) ?_
    exact ⟨rfl, rfl⟩
  · refine ri_iload_n h d_Bx_side_0 rfl ?_
    refine ri_tabIn h 38 d_Bx_side_1 (by decide) (by decide) (by rfl) (by decide) ?_
    refine ri_aload_n h d_Bx_side_38 rfl ?_
    refine ri_get h d_Bx_side_39 fl_Bx_26 (by first | assumption | exact gup_s | (refine gup_t (by assumption) ?_; first | assumption | exact gup_s | (refine gup_t (by assumption) ?_; first | assumption | exact gup_s | (refine gup_t (by assumption) ?_; first | assumption | exact gup_s)))) (by rfl) ?_
    refine ri_lreturn h d_Bx_side_42 (Nat.le_of_ble_eq_true rfl) (Nat.le_of_ble_eq_true rfl) ?_
    exact ⟨rfl, rfl⟩
  · refine ri_iload_n h d_Bx_side_0 rfl ?_
    refine ri_tabOut h 43 d_Bx_side_1 (Or.inr (by decide)) (by decide) ?_
    refine ri_aload_n h d_Bx_side_43 rfl ?_
    refine ri_get h d_Bx_side_44 fl_Bx_32 (by first | assumption | exact gup_s | (refine gup_t (by assumption) ?_; first | assumption | exact gup_s | (refine gup_t (by assumption) ?_; first | assumption | exact gup_s | (refine gup_t (by assumption) ?_; first | assumption | exact gup_s)))) (by rfl) ?_
    refine ri_lreturn h d_Bx_side_47 (Nat.le_of_ble_eq_true rfl) (Nat.le_of_ble_eq_true rfl) ?_
    exact ⟨rfl, rfl⟩
def btch (x0 y0 x1 y1 u v w t : Int64) : Int32 := if x0 ≤ w ∧ u ≤ x1 ∧ y0 ≤ t ∧ v ≤ y1 then 1 else 0
theorem k_Bx_touches (h0 : g_0 l D s0) (hM : M a = some (bx x0 y0 x1 y1 n)) (u v w t : Int64) : Ct l D s0 y_Bx_touches (Cond.code y_Bx_touches b_Bx_touches 9 (some .boolean)) (rk 0 0 0) [.ref a, .long u, .long v, .long w, .long t] M (fR (some (.int (btch x0 y0 x1 y1 u v w t))) M) := by
  refine Ct.of h0 (by decide +kernel) rfl fun X hX h => ?_
  obtain ⟨p_, l', e_, R_, s_, m_, ar_, be_, me_, c_⟩ := X
  obtain rfl : l' = l := hX
  refine ri_aload_n h d_Bx_touches_0 rfl ?_
  refine ri_get h d_Bx_touches_1 fl_Bx_13 (by first | assumption | exact gup_s | (refine gup_t (by assumption) ?_; first | assumption | exact gup_s | (refine gup_t (by assumption) ?_; first | assumption | exact gup_s | (refine gup_t (by assumption) ?_; first | assumption | exact gup_s)))) (by rfl) ?_
  refine ri_lload h d_Bx_touches_4 rfl ?_
  refine ri_lcmp_gt h 42 d_Bx_touches_6 d_Bx_touches_7 (by decide) (fun c_6 => ?_) (fun c_6 => ?_)
  · refine ri_iconst h 0 d_Bx_touches_42 rfl ?_
    refine ri_zreturn h d_Bx_touches_43 (Nat.le_of_ble_eq_true rfl) (Nat.le_of_ble_eq_true rfl) (by first | rfl | assumption) ?_
    exact ⟨by rw [btch, if_neg (fun z => Int64.not_le.mpr c_6 z.1)], rfl⟩
  · refine ri_aload_n h d_Bx_touches_10 rfl ?_
    refine ri_get h d_Bx_touches_11 fl_Bx_26 (by first | assumption | exact gup_s | (refine gup_t (by assumption) ?_; first | assumption | exact gup_s | (refine gup_t (by assumption) ?_; first | assumption | exact gup_s | (refine gup_t (by assumption) ?_; first | assumption | exact gup_s)))) (by rfl) ?_
    refine ri_lload_n h d_Bx_touches_14 rfl ?_
    refine ri_lcmp_lt h 42 d_Bx_touches_15 d_Bx_touches_16 (by decide) (fun c_15 => ?_) (fun c_15 => ?_)
    · refine ri_iconst h 0 d_Bx_touches_42 rfl ?_
      refine ri_zreturn h d_Bx_touches_43 (Nat.le_of_ble_eq_true rfl) (Nat.le_of_ble_eq_true rfl) (by first | rfl | assumption) ?_
      exact ⟨by rw [btch, if_neg (fun z => Int64.not_le.mpr c_15 z.2.1)], rfl⟩
    · refine ri_aload_n h d_Bx_touches_19 rfl ?_
      refine ri_get h d_Bx_touches_20 fl_Bx_23 (by first | assumption | exact gup_s | (refine gup_t (by assumption) ?_; first | assumption | exact gup_s | (refine gup_t (by assumption) ?_; first | assumption | exact gup_s | (refine gup_t (by assumption) ?_; first | assumption | exact gup_s)))) (by rfl) ?_
      refine ri_lload h d_Bx_touches_23 rfl ?_
      refine ri_lcmp_gt h 42 d_Bx_touches_25 d_Bx_touches_26 (by decide) (fun c_25 => ?_) (fun c_25 => ?_)
      · refine ri_iconst h 0 d_Bx_touches_42 rfl ?_
        refine ri_zreturn h d_Bx_touches_43 (Nat.le_of_ble_eq_true rfl) (Nat.le_of_ble_eq_true rfl) (by first | rfl | assumption) ?_
        exact ⟨by rw [btch, if_neg (fun z => Int64.not_le.mpr c_25 z.2.2.1)], rfl⟩
      · refine ri_aload_n h d_Bx_touches_29 rfl ?_
        refine ri_get h d_Bx_touches_30 fl_Bx_32 (by first | assumption | exact gup_s | (refine gup_t (by assumption) ?_; first | assumption | exact gup_s | (refine gup_t (by assumption) ?_; first | assumption | exact gup_s | (refine gup_t (by assumption) ?_; first | assumption | exact gup_s)))) (by rfl) ?_
        refine ri_lload_n h d_Bx_touches_33 rfl ?_
        refine ri_lcmp_lt h 42 d_Bx_touches_34 d_Bx_touches_35 (by decide) (fun c_34 => ?_) (fun c_34 => ?_)
        · refine ri_iconst h 0 d_Bx_touches_42 rfl ?_
          refine ri_zreturn h d_Bx_touches_43 (Nat.le_of_ble_eq_true rfl) (Nat.le_of_ble_eq_true rfl) (by first | rfl | assumption) ?_
          exact ⟨by rw [btch, if_neg (fun z => Int64.not_le.mpr c_34 z.2.2.2)], rfl⟩
        · refine ri_iconst h 1 d_Bx_touches_38 rfl ?_
          refine ri_goto h 43 d_Bx_touches_39 (by decide) ?_
          refine ri_zreturn h d_Bx_touches_43 (Nat.le_of_ble_eq_true rfl) (Nat.le_of_ble_eq_true rfl) (by first | rfl | assumption) ?_
          exact ⟨by rw [btch, if_pos ⟨Int64.not_lt.mp c_6, Int64.not_lt.mp c_15, Int64.not_lt.mp c_25, Int64.not_lt.mp c_34⟩], rfl⟩
theorem k_Bx_become (h0 : g_0 l D s0) {p0 q0 p1 q1 : Int64} {n2 : Int32} (hM : M a = some (bx x0 y0 x1 y1 n)) (hb : M b = some (bx p0 q0 p1 q1 n2)) (k : Nat) (hk : k < 8) (u v : Int64) : Ct l D s0 y_Bx_become (Cond.code y_Bx_become b_Bx_become 15 none) (rk 2 0 0) [.ref a, .ref b, .int (nI k), .long u, .long v] M (fR none (gup M a (bx (u + jmin (tX k p0 q0) (tX k p1 q1)) (v + jmin (tY k p0 q0) (tY k p1 q1)) (u + jmax (tX k p0 q0) (tX k p1 q1)) (v + jmax (tY k p0 q0) (tY k p1 q1)) 0))) := by
  refine Ct.of h0 (by decide +kernel) rfl fun X hX h => ?_
  obtain ⟨p_, l', e_, R_, s_, m_, ar_, be_, me_, c_⟩ := X
  obtain rfl : l' = l := hX
  refine ri_iload_n h d_Bx_become_0 rfl ?_
  refine ri_aload_n h d_Bx_become_1 rfl ?_
  refine ri_get h d_Bx_become_2 fl_Bx_13 (by first | assumption | exact gup_s | (refine gup_t (by assumption) ?_; first | assumption | exact gup_s | (refine gup_t (by assumption) ?_; first | assumption | exact gup_s | (refine gup_t (by assumption) ?_; first | assumption | exact gup_s)))) (by rfl) ?_
  refine ri_aload_n h d_Bx_become_5 rfl ?_
  refine ri_get h d_Bx_become_6 fl_Bx_23 (by first | assumption | exact gup_s | (refine gup_t (by assumption) ?_; first | assumption | exact gup_s | (refine gup_t (by assumption) ?_; first | assumption | exact gup_s | (refine gup_t (by assumption) ?_; first | assumption | exact gup_s)))) (by rfl) ?_
  refine ri_cSNv h [.int (nI k), .long p0, .long q0] [] d_Bx_become_9 cs_Bx_39 (k_turnedX h0 k hk _ _) rfl rfl (Nat.le_of_ble_eq_true rfl) (Nat.le_of_ble_eq_true rfl) (Nat.le_of_ble_eq_true rfl) (Nat.le_of_ble_eq_true rfl) (Nat.le_of_ble_eq_true rfl) ?_
  refine ri_lstore h d_Bx_become_12 (Nat.le_of_ble_eq_true rfl) ?_
  refine ri_iload_n h d_Bx_become_14 rfl ?_
  refine ri_aload_n h d_Bx_become_15 rfl ?_
  refine ri_get h d_Bx_become_16 fl_Bx_13 (by first | assumption | exact gup_s | (refine gup_t (by assumption) ?_; first | assumption | exact gup_s | (refine gup_t (by assumption) ?_; first | assumption | exact gup_s | (refine gup_t (by assumption) ?_; first | assumption | exact gup_s)))) (by rfl) ?_
  refine ri_aload_n h d_Bx_become_19 rfl ?_
  refine ri_get h d_Bx_become_20 fl_Bx_23 (by first | assumption | exact gup_s | (refine gup_t (by assumption) ?_; first | assumption | exact gup_s | (refine gup_t (by assumption) ?_; first | assumption | exact gup_s | (refine gup_t (by assumption) ?_; first | assumption | exact gup_s)))) (by rfl) ?_
  refine ri_cSNv h [.int (nI k), .long p0, .long q0] [] d_Bx_become_23 cs_Bx_45 (k_turnedY h0 k hk _ _) rfl rfl (Nat.le_of_ble_eq_true rfl) (Nat.le_of_ble_eq_true rfl) (Nat.le_of_ble_eq_true rfl) (Nat.le_of_ble_eq_true rfl) (Nat.le_of_ble_eq_true rfl) ?_
  refine ri_lstore h d_Bx_become_26 (Nat.le_of_ble_eq_true rfl) ?_
  refine ri_iload_n h d_Bx_become_28 rfl ?_
  refine ri_aload_n h d_Bx_become_29 rfl ?_
  refine ri_get h d_Bx_become_30 fl_Bx_26 (by first | assumption | exact gup_s | (refine gup_t (by assumption) ?_; first | assumption | exact gup_s | (refine gup_t (by assumption) ?_; first | assumption | exact gup_s | (refine gup_t (by assumption) ?_; first | assumption | exact gup_s)))) (by rfl) ?_
  refine ri_aload_n h d_Bx_become_33 rfl ?_
  refine ri_get h d_Bx_become_34 fl_Bx_32 (by first | assumption | exact gup_s | (refine gup_t (by assumption) ?_; first | assumption | exact gup_s | (refine gup_t (by assumption) ?_; first | assumption | exact gup_s | (refine gup_t (by assumption) ?_; first | assumption | exact gup_s)))) (by rfl) ?_
  refine ri_cSNv h [.int (nI k), .long p1, .long q1] [] d_Bx_become_37 cs_Bx_39 (k_turnedX h0 k hk _ _) rfl rfl (Nat.le_of_ble_eq_true rfl) (Nat.le_of_ble_eq_true rfl) (Nat.le_of_ble_eq_true rfl) (Nat.le_of_ble_eq_true rfl) (Nat.le_of_ble_eq_true rfl) ?_
  refine ri_lstore h d_Bx_become_40 (Nat.le_of_ble_eq_true rfl) ?_
  refine ri_iload_n h d_Bx_become_42 rfl ?_
  refine ri_aload_n h d_Bx_become_43 rfl ?_
  refine ri_get h d_Bx_become_44 fl_Bx_26 (by first | assumption | exact gup_s | (refine gup_t (by assumption) ?_; first | assumption | exact gup_s | (refine gup_t (by assumption) ?_; first | assumption | exact gup_s | (refine gup_t (by assumption) ?_; first | assumption | exact gup_s)))) (by rfl) ?_
  refine ri_aload_n h d_Bx_become_47 rfl ?_
  refine ri_get h d_Bx_become_48 fl_Bx_32 (by first | assumption | exact gup_s | (refine gup_t (by assumption) ?_; first | assumption | exact gup_s | (refine gup_t (by assumption) ?_; first | assumption | exact gup_s | (refine gup_t (by assumption) ?_; first | assumption | exact gup_s)))) (by rfl) ?_
  refine ri_cSNv h [.int (nI k), .long p1, .long q1] [] d_Bx_become_51 cs_Bx_45 (k_turnedY h0 k hk _ _) rfl rfl (Nat.le_of_ble_eq_true rfl) (Nat.le_of_ble_eq_true rfl) (Nat.le_of_ble_eq_true rfl) (Nat.le_of_ble_eq_true rfl) (Nat.le_of_ble_eq_true rfl) ?_
  refine ri_lstore h d_Bx_become_54 (Nat.le_of_ble_eq_true rfl) ?_
  refine ri_aload_n h d_Bx_become_56 rfl ?_
  refine ri_cV0 (r := (gR0, gT0, 5)) h [] [] d_Bx_become_57 cv_Bx_48 (by first | assumption | exact gup_s | (refine gup_t (by assumption) ?_; first | assumption | exact gup_s | (refine gup_t (by assumption) ?_; first | assumption | exact gup_s | (refine gup_t (by assumption) ?_; first | assumption | exact gup_s)))) rfl (k_Bx_clear h0 hM) rfl rfl (Nat.le_of_ble_eq_true rfl) (Nat.le_of_ble_eq_true rfl) (Nat.le_of_ble_eq_true rfl) (Nat.le_of_ble_eq_true rfl) (Nat.le_of_ble_eq_true rfl) ?_
  refine ri_aload_n h d_Bx_become_60 rfl ?_
  refine ri_lload_n h d_Bx_become_61 rfl ?_
  refine ri_lload h d_Bx_become_62 rfl ?_
  refine ri_lload h d_Bx_become_64 rfl ?_
  refine ri_cSv h [.long (tX k p0 q0), .long (tX k p1 q1)] [.long u, .ref a] d_Bx_become_66 cs_Bx_17 (m_min_l h0 _ _ _) rfl rfl (Nat.le_of_ble_eq_true rfl) (Nat.le_of_ble_eq_true rfl) (Nat.le_of_ble_eq_true rfl) (Nat.le_of_ble_eq_true rfl) (Nat.le_of_ble_eq_true rfl) ?_
  refine ri_ladd h d_Bx_become_69 ?_
  refine ri_lload h d_Bx_become_70 rfl ?_
  refine ri_lload h d_Bx_become_72 rfl ?_
  refine ri_lload h d_Bx_become_74 rfl ?_
  refine ri_cSv h [.long (tY k p0 q0), .long (tY k p1 q1)] [.long v, .long (u + jmin (tX k p0 q0) (tX k p1 q1)), .ref a] d_Bx_become_76 cs_Bx_17 (m_min_l h0 _ _ _) rfl rfl (Nat.le_of_ble_eq_true rfl) (Nat.le_of_ble_eq_true rfl) (Nat.le_of_ble_eq_true rfl) (Nat.le_of_ble_eq_true rfl) (Nat.le_of_ble_eq_true rfl) ?_
  refine ri_ladd h d_Bx_become_79 ?_
  refine ri_lload_n h d_Bx_become_80 rfl ?_
  refine ri_lload h d_Bx_become_81 rfl ?_
  refine ri_lload h d_Bx_become_83 rfl ?_
  refine ri_cSv h [.long (tX k p0 q0), .long (tX k p1 q1)] [.long u, .long (v + jmin (tY k p0 q0) (tY k p1 q1)), .long (u + jmin (tX k p0 q0) (tX k p1 q1)), .ref a] d_Bx_become_85 cs_Bx_29 (m_max_l h0 _ _ _) rfl rfl (Nat.le_of_ble_eq_true rfl) (Nat.le_of_ble_eq_true rfl) (Nat.le_of_ble_eq_true rfl) (Nat.le_of_ble_eq_true rfl) (Nat.le_of_ble_eq_true rfl) ?_
  refine ri_ladd h d_Bx_become_88 ?_
  refine ri_lload h d_Bx_become_89 rfl ?_
  refine ri_lload h d_Bx_become_91 rfl ?_
  refine ri_lload h d_Bx_become_93 rfl ?_
  refine ri_cSvw h [.long (tY k p0 q0), .long (tY k p1 q1)] [.long v, .long (u + jmax (tX k p0 q0) (tX k p1 q1)), .long (v + jmin (tY k p0 q0) (tY k p1 q1)), .long (u + jmin (tX k p0 q0) (tX k p1 q1)), .ref a] d_Bx_become_95 cs_Bx_29 (m_max_l h0 _ _ _) rfl rfl (Nat.le_of_ble_eq_true rfl) (Nat.le_of_ble_eq_true rfl) (Nat.le_of_ble_eq_true rfl) (Nat.le_of_ble_eq_true rfl) (Nat.le_of_ble_eq_true rfl) ?_
  refine ri_ladd h d_Bx_become_98 ?_
  refine ri_cV0 (r := (gR0, gT0, 5)) h [.long (u + jmin (tX k p0 q0) (tX k p1 q1)), .long (v + jmin (tY k p0 q0) (tY k p1 q1)), .long (u + jmax (tX k p0 q0) (tX k p1 q1)), .long (v + jmax (tY k p0 q0) (tY k p1 q1))] [] d_Bx_become_99 cv_Bx_35 gup_s rfl (k_Bx_hold (x0 := x0) (y0 := y0) (x1 := x1) (y1 := y1) (n := 1) h0 gup_s _ _ _ _) rfl rfl (Nat.le_of_ble_eq_true rfl) (Nat.le_of_ble_eq_true rfl) (Nat.le_of_ble_eq_true rfl) (Nat.le_of_ble_eq_true rfl) (Nat.le_of_ble_eq_true rfl) ?_
  refine ri_return h d_Bx_become_102 (Nat.le_of_ble_eq_true rfl) (Nat.le_of_ble_eq_true rfl) ?_
  exact ⟨rfl, by rw [gup_u]; rfl⟩
end TU
