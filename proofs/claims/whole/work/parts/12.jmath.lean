/-! Math, Long, Integer: pure -/
section JM
variable {l : Launch} {D : gD} {s0 : State}
def imax (x y : Int32) : Int32 := if x < y then y else x
def imin (x y : Int32) : Int32 := if y < x then y else x
def jmax (x y : Int64) : Int64 := if x < y then y else x
def jmin (x y : Int64) : Int64 := if y < x then y else x
def jcmp (x y : Int64) : Int32 := if x < y then -1 else if x = y then 0 else 1
def icmp (x y : Int32) : Int32 := if x < y then -1 else if x = y then 0 else 1
def jsgn (x : Int64) : Int32 := ((x >>> (((63 : Int32)).toInt64 &&& 63)) ||| ((-x).toUInt64 >>> (((63 : Int32)).toInt64.toUInt64 &&& Int64.toUInt64 63)).toInt64).toInt32
def ifmod (x y : Int32) : Int32 := if 0 ≤ x ^^^ y then x - x / y * y else if x - x / y * y = 0 then x - x / y * y else x - x / y * y + y
theorem m_max_i (h0 : g_0 l D s0) (M : gH) (x y : Int32) : Ct l D s0 y_Mt_max_0 (Cond.code y_Mt_max_0 b_Mt_max_0 2 (some .int)) (rk 0 0 0) [.int x, .int y] M (fR (some (.int (imax x y))) M) := by
  refine Ct.of h0 (by decide +kernel) rfl fun X hX h => ?_
  refine ri_iload_n h d_Mt_max_0_0 rfl ?_
  refine ri_iload_n h d_Mt_max_0_1 rfl ?_
  refine ri_icmp_lt h 9 d_Mt_max_0_2 (by decide) (fun c_2 => ?_) (fun c_2 => ?_)
  · refine ri_iload_n h d_Mt_max_0_9 rfl ?_
    refine ri_ireturn h d_Mt_max_0_10 (Nat.le_of_ble_eq_true rfl) (Nat.le_of_ble_eq_true rfl) ?_
    exact ⟨by rw [imax, if_pos c_2], rfl⟩
  · refine ri_iload_n h d_Mt_max_0_5 rfl ?_
    refine ri_goto h 10 d_Mt_max_0_6 (by decide) ?_
    refine ri_ireturn h d_Mt_max_0_10 (Nat.le_of_ble_eq_true rfl) (Nat.le_of_ble_eq_true rfl) ?_
    exact ⟨by rw [imax, if_neg c_2], rfl⟩
theorem m_min_i (h0 : g_0 l D s0) (M : gH) (x y : Int32) : Ct l D s0 y_Mt_min_0 (Cond.code y_Mt_min_0 b_Mt_min_0 2 (some .int)) (rk 0 0 0) [.int x, .int y] M (fR (some (.int (imin x y))) M) := by
  refine Ct.of h0 (by decide +kernel) rfl fun X hX h => ?_
  refine ri_iload_n h d_Mt_min_0_0 rfl ?_
  refine ri_iload_n h d_Mt_min_0_1 rfl ?_
  refine ri_icmp_gt h 9 d_Mt_min_0_2 (by decide) (fun c_2 => ?_) (fun c_2 => ?_)
  · refine ri_iload_n h d_Mt_min_0_9 rfl ?_
    refine ri_ireturn h d_Mt_min_0_10 (Nat.le_of_ble_eq_true rfl) (Nat.le_of_ble_eq_true rfl) ?_
    exact ⟨by rw [imin, if_pos c_2], rfl⟩
  · refine ri_iload_n h d_Mt_min_0_5 rfl ?_
    refine ri_goto h 10 d_Mt_min_0_6 (by decide) ?_
    refine ri_ireturn h d_Mt_min_0_10 (Nat.le_of_ble_eq_true rfl) (Nat.le_of_ble_eq_true rfl) ?_
    exact ⟨by rw [imin, if_neg c_2], rfl⟩
theorem m_max_l (h0 : g_0 l D s0) (M : gH) (x y : Int64) : Ct l D s0 y_Mt_max_1 (Cond.code y_Mt_max_1 b_Mt_max_1 4 (some .long)) (rk 0 0 0) [.long x, .long y] M (fR (some (.long (jmax x y))) M) := by
  refine Ct.of h0 (by decide +kernel) rfl fun X hX h => ?_
  refine ri_lload_n h d_Mt_max_1_0 rfl ?_
  refine ri_lload_n h d_Mt_max_1_1 rfl ?_
  refine ri_lcmp_lt h 10 d_Mt_max_1_2 d_Mt_max_1_3 (by decide) (fun c_2 => ?_) (fun c_2 => ?_)
  · refine ri_lload_n h d_Mt_max_1_10 rfl ?_
    refine ri_lreturn h d_Mt_max_1_11 (Nat.le_of_ble_eq_true rfl) (Nat.le_of_ble_eq_true rfl) ?_
    exact ⟨by rw [jmax, if_pos c_2], rfl⟩
  · refine ri_lload_n h d_Mt_max_1_6 rfl ?_
    refine ri_goto h 11 d_Mt_max_1_7 (by decide) ?_
    refine ri_lreturn h d_Mt_max_1_11 (Nat.le_of_ble_eq_true rfl) (Nat.le_of_ble_eq_true rfl) ?_
    exact ⟨by rw [jmax, if_neg c_2], rfl⟩
theorem m_min_l (h0 : g_0 l D s0) (M : gH) (x y : Int64) : Ct l D s0 y_Mt_min_1 (Cond.code y_Mt_min_1 b_Mt_min_1 4 (some .long)) (rk 0 0 0) [.long x, .long y] M (fR (some (.long (jmin x y))) M) := by
  refine Ct.of h0 (by decide +kernel) rfl fun X hX h => ?_
  refine ri_lload_n h d_Mt_min_1_0 rfl ?_
  refine ri_lload_n h d_Mt_min_1_1 rfl ?_
  refine ri_lcmp_gt h 10 d_Mt_min_1_2 d_Mt_min_1_3 (by decide) (fun c_2 => ?_) (fun c_2 => ?_)
  · refine ri_lload_n h d_Mt_min_1_10 rfl ?_
    refine ri_lreturn h d_Mt_min_1_11 (Nat.le_of_ble_eq_true rfl) (Nat.le_of_ble_eq_true rfl) ?_
    exact ⟨by rw [jmin, if_pos c_2], rfl⟩
  · refine ri_lload_n h d_Mt_min_1_6 rfl ?_
    refine ri_goto h 11 d_Mt_min_1_7 (by decide) ?_
    refine ri_lreturn h d_Mt_min_1_11 (Nat.le_of_ble_eq_true rfl) (Nat.le_of_ble_eq_true rfl) ?_
    exact ⟨by rw [jmin, if_neg c_2], rfl⟩
theorem m_jcmp (h0 : g_0 l D s0) (M : gH) (x y : Int64) : Ct l D s0 y_Lo_compare (Cond.code y_Lo_compare b_Lo_compare 4 (some .int)) (rk 0 0 0) [.long x, .long y] M (fR (some (.int (jcmp x y))) M) := by
  refine Ct.of h0 (by decide +kernel) rfl fun X hX h => ?_
  refine ri_lload_n h d_Lo_compare_0 rfl ?_
  refine ri_lload_n h d_Lo_compare_1 rfl ?_
  refine ri_lcmp_ge h 10 d_Lo_compare_2 d_Lo_compare_3 (by decide) (fun c_2 => ?_) (fun c_2 => ?_)
  · refine ri_lload_n h d_Lo_compare_10 rfl ?_
    refine ri_lload_n h d_Lo_compare_11 rfl ?_
    refine ri_lcmp_ne h 20 d_Lo_compare_12 d_Lo_compare_13 (by decide) (fun c_12 => ?_) (fun c_12 => ?_)
    · refine ri_iconst h 1 d_Lo_compare_20 rfl ?_
      refine ri_ireturn h d_Lo_compare_21 (Nat.le_of_ble_eq_true rfl) (Nat.le_of_ble_eq_true rfl) ?_
      exact ⟨by rw [jcmp, if_neg (fun z => Int64.not_lt.mpr c_2 z), if_neg c_12], rfl⟩
    · refine ri_iconst h 0 d_Lo_compare_16 rfl ?_
      refine ri_goto h 21 d_Lo_compare_17 (by decide) ?_
      refine ri_ireturn h d_Lo_compare_21 (Nat.le_of_ble_eq_true rfl) (Nat.le_of_ble_eq_true rfl) ?_
      exact ⟨by rw [jcmp, if_neg (fun z => Int64.not_lt.mpr c_2 z), if_pos c_12], rfl⟩
  · refine ri_iconst h (-1) d_Lo_compare_6 rfl ?_
    refine ri_goto h 21 d_Lo_compare_7 (by decide) ?_
    refine ri_ireturn h d_Lo_compare_21 (Nat.le_of_ble_eq_true rfl) (Nat.le_of_ble_eq_true rfl) ?_
    exact ⟨by rw [jcmp, if_pos (Int64.not_le.mp c_2)], rfl⟩
theorem m_icmp (h0 : g_0 l D s0) (M : gH) (x y : Int32) : Ct l D s0 y_In_compare (Cond.code y_In_compare b_In_compare 2 (some .int)) (rk 0 0 0) [.int x, .int y] M (fR (some (.int (icmp x y))) M) := by
  refine Ct.of h0 (by decide +kernel) rfl fun X hX h => ?_
  refine ri_iload_n h d_In_compare_0 rfl ?_
  refine ri_iload_n h d_In_compare_1 rfl ?_
  refine ri_icmp_ge h 9 d_In_compare_2 (by decide) (fun c_2 => ?_) (fun c_2 => ?_)
  · refine ri_iload_n h d_In_compare_9 rfl ?_
    refine ri_iload_n h d_In_compare_10 rfl ?_
    refine ri_icmp_ne h 18 d_In_compare_11 (by decide) (fun c_11 => ?_) (fun c_11 => ?_)
    · refine ri_iconst h 1 d_In_compare_18 rfl ?_
      refine ri_ireturn h d_In_compare_19 (Nat.le_of_ble_eq_true rfl) (Nat.le_of_ble_eq_true rfl) ?_
      exact ⟨by rw [icmp, if_neg (fun z => Int32.not_lt.mpr c_2 z), if_neg c_11], rfl⟩
    · refine ri_iconst h 0 d_In_compare_14 rfl ?_
      refine ri_goto h 19 d_In_compare_15 (by decide) ?_
      refine ri_ireturn h d_In_compare_19 (Nat.le_of_ble_eq_true rfl) (Nat.le_of_ble_eq_true rfl) ?_
      exact ⟨by rw [icmp, if_neg (fun z => Int32.not_lt.mpr c_2 z), if_pos c_11], rfl⟩
  · refine ri_iconst h (-1) d_In_compare_5 rfl ?_
    refine ri_goto h 19 d_In_compare_6 (by decide) ?_
    refine ri_ireturn h d_In_compare_19 (Nat.le_of_ble_eq_true rfl) (Nat.le_of_ble_eq_true rfl) ?_
    exact ⟨by rw [icmp, if_pos (Int32.not_le.mp c_2)], rfl⟩
theorem m_jsgn (h0 : g_0 l D s0) (M : gH) (x : Int64) : Ct l D s0 y_Lo_signum (Cond.code y_Lo_signum b_Lo_signum 2 (some .int)) (rk 0 0 0) [.long x] M (fR (some (.int (jsgn x))) M) := by
  refine Ct.of h0 (by decide +kernel) rfl fun X hX h => ?_
  refine ri_lload_n h d_Lo_signum_0 rfl ?_
  refine ri_bipush h 63 d_Lo_signum_1 rfl ?_
  refine ri_lshr h d_Lo_signum_3 ?_
  refine ri_lload_n h d_Lo_signum_4 rfl ?_
  refine ri_lneg h d_Lo_signum_5 ?_
  refine ri_bipush h 63 d_Lo_signum_6 rfl ?_
  refine ri_lushr h d_Lo_signum_8 ?_
  refine ri_lor h d_Lo_signum_9 ?_
  refine ri_l2i h d_Lo_signum_10 ?_
  refine ri_ireturn h d_Lo_signum_11 (Nat.le_of_ble_eq_true rfl) (Nat.le_of_ble_eq_true rfl) ?_
  exact ⟨rfl, rfl⟩
theorem m_fmod (h0 : g_0 l D s0) (M : gH) (x y : Int32) (hy : ¬ y = 0) : Ct l D s0 y_Mt_floorMod (Cond.code y_Mt_floorMod b_Mt_floorMod 3 (some .int)) (rk 0 0 0) [.int x, .int y] M (fR (some (.int (ifmod x y))) M) := by
  refine Ct.of h0 (by decide +kernel) rfl fun X hX h => ?_
  refine ri_iload_n h d_Mt_floorMod_0 rfl ?_
  refine ri_iload_n h d_Mt_floorMod_1 rfl ?_
  refine ri_irem h d_Mt_floorMod_2 hy ?_
  refine ri_istore_n h d_Mt_floorMod_3 (Nat.le_of_ble_eq_true rfl) ?_
  refine ri_iload_n h d_Mt_floorMod_4 rfl ?_
  refine ri_iload_n h d_Mt_floorMod_5 rfl ?_
  refine ri_ixor h d_Mt_floorMod_6 ?_
  refine ri_if_ge h 18 d_Mt_floorMod_7 (by decide) (fun c_7 => ?_) (fun c_7 => ?_)
  · refine ri_iload_n h d_Mt_floorMod_18 rfl ?_
    refine ri_ireturn h d_Mt_floorMod_19 (Nat.le_of_ble_eq_true rfl) (Nat.le_of_ble_eq_true rfl) ?_
    exact ⟨by rw [ifmod, if_pos c_7], rfl⟩
  · refine ri_iload_n h d_Mt_floorMod_10 rfl ?_
    refine ri_if_eq h 18 d_Mt_floorMod_11 (by decide) (fun c_11 => ?_) (fun c_11 => ?_)
    · refine ri_iload_n h d_Mt_floorMod_18 rfl ?_
      refine ri_ireturn h d_Mt_floorMod_19 (Nat.le_of_ble_eq_true rfl) (Nat.le_of_ble_eq_true rfl) ?_
      exact ⟨by rw [ifmod, if_neg c_7, if_pos c_11], rfl⟩
    · refine ri_iload_n h d_Mt_floorMod_14 rfl ?_
      refine ri_iload_n h d_Mt_floorMod_15 rfl ?_
      refine ri_iadd h d_Mt_floorMod_16 ?_
      refine ri_ireturn h d_Mt_floorMod_17 (Nat.le_of_ble_eq_true rfl) (Nat.le_of_ble_eq_true rfl) ?_
      exact ⟨by rw [ifmod, if_neg c_7, if_neg c_11], rfl⟩
end JM
