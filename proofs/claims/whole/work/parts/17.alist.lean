/-! ArrayList -/
section AL
variable {l : Launch} {D : gD} {s0 : State} {M : gH} {a d z : Nat}
abbrev als (d : Nat) (n mc : Int32) : gE := .inr (7, [.ref d, .int n, .int mc])
theorem k_Ac_init (h0 : g_0 l D s0) : Ct l D s0 y_Ac_init (Cond.code y_Ac_init b_Ac_init 1 none) (rk 1 0 0) [.ref a] M (fR none M) := by
  refine Ct.of h0 (by decide +kernel) rfl fun X hX h => ?_
  obtain ⟨p_, l', e_, R_, s_, m_, ar_, be_, me_, c_⟩ := X
  obtain rfl : l' = l := hX
  refine ri_aload_n h d_Ac_init_0 rfl ?_
  refine ri_obj h d_Ac_init_1 ob_Ac_1 (Nat.le_of_ble_eq_true rfl) (Nat.le_of_ble_eq_true rfl) ?_
  refine ri_return h d_Ac_init_4 (Nat.le_of_ble_eq_true rfl) (Nat.le_of_ble_eq_true rfl) ?_
  exact ⟨rfl, rfl⟩
theorem k_Ab_init (h0 : g_0 l D s0) {x : Value} {n mc : Int32} (hM : M a = some (.inr (7, [x, .int n, .int mc]))) : Ct l D s0 y_Ab_init (Cond.code y_Ab_init b_Ab_init 1 none) (rk 2 0 0) [.ref a] M (fR none (gup M a (.inr (7, [x, .int n, .int 0])))) := by
  refine Ct.of h0 (by decide +kernel) rfl fun X hX h => ?_
  obtain ⟨p_, l', e_, R_, s_, m_, ar_, be_, me_, c_⟩ := X
  obtain rfl : l' = l := hX
  refine ri_aload_n h d_Ab_init_0 rfl ?_
  refine ri_cI0 h [] [] d_Ab_init_1 ci_Ab_1 (k_Ac_init h0) rfl rfl (Nat.le_of_ble_eq_true rfl) (Nat.le_of_ble_eq_true rfl) (Nat.le_of_ble_eq_true rfl) (Nat.le_of_ble_eq_true rfl) (Nat.le_of_ble_eq_true rfl) ?_
  refine ri_aload_n h d_Ab_init_4 rfl ?_
  refine ri_iconst h 0 d_Ab_init_5 rfl ?_
  refine ri_put h d_Ab_init_6 fl_Ab_7 (fun r hr => by cases hr; rfl) (by first | assumption | exact gup_s | (refine gup_t (by assumption) ?_; first | assumption | exact gup_s | (refine gup_t (by assumption) ?_; first | assumption | exact gup_s | (refine gup_t (by assumption) ?_; first | assumption | exact gup_s)))) (by first | rfl | assumption) (by first | rfl | decide | assumption) ?_
  refine ri_return h d_Ab_init_9 (Nat.le_of_ble_eq_true rfl) (Nat.le_of_ble_eq_true rfl) ?_
  exact ⟨rfl, rfl⟩
theorem k_AL_init (h0 : g_0 l D s0) (hz : gz s0 z) {x : Value} {n mc : Int32} (hM : M a = some (.inr (7, [x, .int n, .int mc]))) : Ct l D s0 y_AL_init (Cond.code y_AL_init b_AL_init 1 none) (rk 3 0 0) [.ref a] M (fR none (gup M a (als z n 0))) := by
  refine Ct.of h0 (by decide +kernel) rfl fun X hX h => ?_
  obtain ⟨p_, l', e_, R_, s_, m_, ar_, be_, me_, c_⟩ := X
  obtain rfl : l' = l := hX
  refine ri_aload_n h d_AL_init_0 rfl ?_
  refine ri_cI0 h [] [] d_AL_init_1 ci_AL_1 (k_Ab_init h0 hM) rfl rfl (Nat.le_of_ble_eq_true rfl) (Nat.le_of_ble_eq_true rfl) (Nat.le_of_ble_eq_true rfl) (Nat.le_of_ble_eq_true rfl) (Nat.le_of_ble_eq_true rfl) ?_
  refine ri_aload_n h d_AL_init_4 rfl ?_
  refine ri_gets h hz d_AL_init_5 ?_
  refine ri_put h d_AL_init_8 fl_AL_9 (fun r hr => by cases hr; rfl) (by first | assumption | exact gup_s | (refine gup_t (by assumption) ?_; first | assumption | exact gup_s | (refine gup_t (by assumption) ?_; first | assumption | exact gup_s | (refine gup_t (by assumption) ?_; first | assumption | exact gup_s)))) (by first | rfl | assumption) (by first | rfl | decide | assumption) ?_
  refine ri_return h d_AL_init_11 (Nat.le_of_ble_eq_true rfl) (Nat.le_of_ble_eq_true rfl) ?_
  exact ⟨rfl, by rw [gup_u]; rfl⟩
theorem k_AL_size (h0 : g_0 l D s0) {n mc : Int32} (hM : M a = some (als d n mc)) : Ct l D s0 y_AL_size (Cond.code y_AL_size b_AL_size 1 (some .int)) (rk 0 0 0) [.ref a] M (fR (some (.int n)) M) := by
  refine Ct.of h0 (by decide +kernel) rfl fun X hX h => ?_
  obtain ⟨p_, l', e_, R_, s_, m_, ar_, be_, me_, c_⟩ := X
  obtain rfl : l' = l := hX
  refine ri_aload_n h d_AL_size_0 rfl ?_
  refine ri_get h d_AL_size_1 fl_AL_48 (by first | assumption | exact gup_s | (refine gup_t (by assumption) ?_; first | assumption | exact gup_s | (refine gup_t (by assumption) ?_; first | assumption | exact gup_s | (refine gup_t (by assumption) ?_; first | assumption | exact gup_s)))) (by rfl) ?_
  refine ri_ireturn h d_AL_size_4 (Nat.le_of_ble_eq_true rfl) (Nat.le_of_ble_eq_true rfl) ?_
  exact ⟨rfl, rfl⟩
theorem k_Pr_check (h0 : g_0 l D s0) (i n : Nat) (hi : i < n) (hn : n < 2147483648) : Ct l D s0 y_Pr_checkIndex (Cond.code y_Pr_checkIndex b_Pr_checkIndex 3 (some .int)) (rk 0 0 0) [.int (nI i), .int (nI n), .null] M (fR (some (.int (nI i))) M) := by
  refine Ct.of h0 (by decide +kernel) rfl fun X hX h => ?_
  obtain ⟨p_, l', e_, R_, s_, m_, ar_, be_, me_, c_⟩ := X
  obtain rfl : l' = l := hX
  refine ri_iload_n h d_Pr_checkIndex_0 rfl ?_
  refine ri_if_lt h 9 d_Pr_checkIndex_1 (by decide) (fun c_1 => ?_) (fun c_1 => ?_)
  · exact absurd c_1 (nI_pos (by omega))
  · refine ri_iload_n h d_Pr_checkIndex_4 rfl ?_
    refine ri_iload_n h d_Pr_checkIndex_5 rfl ?_
    refine ri_icmp_lt h 16 d_Pr_checkIndex_6 (by decide) (fun c_6 => ?_) (fun c_6 => ?_)
    · refine ri_iload_n h d_Pr_checkIndex_16 rfl ?_
      refine ri_ireturn h d_Pr_checkIndex_17 (Nat.le_of_ble_eq_true rfl) (Nat.le_of_ble_eq_true rfl) ?_
      exact ⟨rfl, rfl⟩
    · exact absurd (nI_lt hi (by omega)) c_6
theorem k_Ob_check (h0 : g_0 l D s0) (i n : Nat) (hi : i < n) (hn : n < 2147483648) : Ct l D s0 y_Ob_checkIndex (Cond.code y_Ob_checkIndex b_Ob_checkIndex 2 (some .int)) (rk 1 0 0) [.int (nI i), .int (nI n)] M (fR (some (.int (nI i))) M) := by
  refine Ct.of h0 (by decide +kernel) rfl fun X hX h => ?_
  obtain ⟨p_, l', e_, R_, s_, m_, ar_, be_, me_, c_⟩ := X
  obtain rfl : l' = l := hX
  refine ri_iload_n h d_Ob_checkIndex_0 rfl ?_
  refine ri_iload_n h d_Ob_checkIndex_1 rfl ?_
  refine ri_null h d_Ob_checkIndex_2 ?_
  refine ri_cSv h [.int (nI i), .int (nI n), .null] [] d_Ob_checkIndex_3 cs_Ob_105 (k_Pr_check h0 i n hi hn) rfl rfl (Nat.le_of_ble_eq_true rfl) (Nat.le_of_ble_eq_true rfl) (Nat.le_of_ble_eq_true rfl) (Nat.le_of_ble_eq_true rfl) (Nat.le_of_ble_eq_true rfl) ?_
  refine ri_ireturn h d_Ob_checkIndex_6 (Nat.le_of_ble_eq_true rfl) (Nat.le_of_ble_eq_true rfl) ?_
  exact ⟨rfl, rfl⟩
theorem k_AL_elem (h0 : g_0 l D s0) {n mc : Int32} {cap : Nat} {g : Nat → Option Nat} (hM : M a = some (als d n mc)) (hd : M d = some (ao cap g)) (i : Nat) (hi : i < cap) (hc : cap < 2147483648) {y : Nat} (hy : g i = some y) : Ct l D s0 y_AL_elementData (Cond.code y_AL_elementData b_AL_elementData 2 (some (.object "java/lang/Object"))) (rk 0 0 0) [.ref a, .int (nI i)] M (fR (some (.ref y)) M) := by
  refine Ct.of h0 (by decide +kernel) rfl fun X hX h => ?_
  obtain ⟨p_, l', e_, R_, s_, m_, ar_, be_, me_, c_⟩ := X
  obtain rfl : l' = l := hX
  refine ri_aload_n h d_AL_elementData_0 rfl ?_
  refine ri_get h d_AL_elementData_1 fl_AL_9 (by first | assumption | exact gup_s | (refine gup_t (by assumption) ?_; first | assumption | exact gup_s | (refine gup_t (by assumption) ?_; first | assumption | exact gup_s | (refine gup_t (by assumption) ?_; first | assumption | exact gup_s)))) (by rfl) ?_
  refine ri_iload_n h d_AL_elementData_4 rfl ?_
  refine ri_aald h 3 i d_AL_elementData_5 (Or.inl rfl) hd rfl hi hc hy ?_
  refine ri_areturn h (by first | exact Or.inl ⟨_, rfl⟩ | exact Or.inr ⟨_, rfl⟩) d_AL_elementData_6 (Nat.le_of_ble_eq_true rfl) (Nat.le_of_ble_eq_true rfl) ?_
  exact ⟨rfl, rfl⟩
theorem k_AL_get (h0 : g_0 l D s0) {mc : Int32} {n cap : Nat} {g : Nat → Option Nat} (hM : M a = some (als d (nI n) mc)) (hd : M d = some (ao cap g)) (i : Nat) (hi : i < n) (hn : n ≤ cap) (hc : cap < 2147483648) {y : Nat} (hy : g i = some y) : Ct l D s0 y_AL_get (Cond.code y_AL_get b_AL_get 2 (some (.object "java/lang/Object"))) (rk 2 0 0) [.ref a, .int (nI i)] M (fR (some (.ref y)) M) := by
  refine Ct.of h0 (by decide +kernel) rfl fun X hX h => ?_
  obtain ⟨p_, l', e_, R_, s_, m_, ar_, be_, me_, c_⟩ := X
  obtain rfl : l' = l := hX
  refine ri_iload_n h d_AL_get_0 rfl ?_
  refine ri_aload_n h d_AL_get_1 rfl ?_
  refine ri_get h d_AL_get_2 fl_AL_48 (by first | assumption | exact gup_s | (refine gup_t (by assumption) ?_; first | assumption | exact gup_s | (refine gup_t (by assumption) ?_; first | assumption | exact gup_s | (refine gup_t (by assumption) ?_; first | assumption | exact gup_s)))) (by rfl) ?_
  refine ri_cSv h [.int (nI i), .int (nI n)] [] d_AL_get_5 cs_AL_118 (k_Ob_check h0 i n hi (by omega)) rfl rfl (Nat.le_of_ble_eq_true rfl) (Nat.le_of_ble_eq_true rfl) (Nat.le_of_ble_eq_true rfl) (Nat.le_of_ble_eq_true rfl) (Nat.le_of_ble_eq_true rfl) ?_
  refine ri_pop h d_AL_get_8 rfl ?_
  refine ri_aload_n h d_AL_get_9 rfl ?_
  refine ri_iload_n h d_AL_get_10 rfl ?_
  refine ri_cVv (r := (gR7, gT7, 3)) h [.int (nI i)] [] d_AL_get_11 cv_AL_123 (by first | assumption | exact gup_s | (refine gup_t (by assumption) ?_; first | assumption | exact gup_s | (refine gup_t (by assumption) ?_; first | assumption | exact gup_s | (refine gup_t (by assumption) ?_; first | assumption | exact gup_s)))) rfl (k_AL_elem h0 hM hd i (by omega) hc hy) rfl rfl (Nat.le_of_ble_eq_true rfl) (Nat.le_of_ble_eq_true rfl) (Nat.le_of_ble_eq_true rfl) (Nat.le_of_ble_eq_true rfl) (Nat.le_of_ble_eq_true rfl) ?_
  refine ri_areturn h (by first | exact Or.inl ⟨_, rfl⟩ | exact Or.inr ⟨_, rfl⟩) d_AL_get_14 (Nat.le_of_ble_eq_true rfl) (Nat.le_of_ble_eq_true rfl) ?_
  exact ⟨rfl, rfl⟩
end AL
