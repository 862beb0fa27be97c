/-! Math, Long, Integer: pure -/
section JM
variable {l : Launch} {D : gD} {s0 : State}
theorem m_max_i (h0 : g_0 l D s0) (M : gH) (x y : Int32) : Ct l D s0 y_Mt_max_0 (Cond.code y_Mt_max_0 b_Mt_max_0 2 (some .int)) (rk 0 0 0) [.int x, .int y] M (fR (some (.int (if x < y then y else x))) M) := by
  refine Ct.of h0 (by decide) (by decide) fun X hX h => ?_
  refine ri_iload_n h d_Mt_max_0_0 rfl ?_
  refine ri_iload_n h d_Mt_max_0_1 rfl ?_
  refine ri_icmp_lt h 9 d_Mt_max_0_2 (by decide) (fun c_2 => ?_) (fun c_2 => ?_)
  · refine ri_iload_n h d_Mt_max_0_9 rfl ?_
    refine ri_ireturn h d_Mt_max_0_10 (Nat.le_of_ble_eq_true rfl) (Nat.le_of_ble_eq_true rfl) ?_
    exact ⟨by rw [if_pos c_2], rfl⟩
  · refine ri_iload_n h d_Mt_max_0_5 rfl ?_
    refine ri_goto h 10 d_Mt_max_0_6 (by decide) ?_
    refine ri_ireturn h d_Mt_max_0_10 (Nat.le_of_ble_eq_true rfl) (Nat.le_of_ble_eq_true rfl) ?_
    exact ⟨by rw [if_neg c_2], rfl⟩
end JM
