/-! Box -/
section BX
variable {l : Launch} {D : gD} {s0 : State} {M : gH} {a : Nat} {x0 y0 x1 y1 : Int64} {n : Int32}
abbrev bx (x0 y0 x1 y1 : Int64) (n : Int32) : gE := .inr (0, [.long x0, .long y0, .long x1, .long y1, .int n])
def hmin (n : Int32) (x y : Int64) : Int64 := if n = 0 then jmin x y else y
def hmax (n : Int32) (x y : Int64) : Int64 := if n = 0 then jmax x y else y
theorem k_Bx_init (h0 : g_0 l D s0) (hM : M a = some (bx x0 y0 x1 y1 n)) : Ct l D s0 y_Bx_init (Cond.code y_Bx_init b_Bx_init 1 none) (rk 1 0 0) [.ref a] M (fR none (gup M a (bx x0 y0 x1 y1 1))) := by
  refine Ct.of h0 (by decide +kernel) rfl fun X hX h => ?_
  obtain ⟨p_, l', e_, R_, s_, m_, ar_, be_, me_, c_⟩ := X
  obtain rfl : l' = l := hX
  refine ri_aload_n h d_Bx_init_0 rfl ?_
  refine ri_obj h d_Bx_init_1 ob_Bx_1 (Nat.le_of_ble_eq_true rfl) (Nat.le_of_ble_eq_true rfl) ?_
  refine ri_aload_n h d_Bx_init_4 rfl ?_
  refine ri_iconst h 1 d_Bx_init_5 rfl ?_
  refine ri_put h d_Bx_init_6 fl_Bx_7 (fun r hr => by cases hr; rfl) (by first | assumption | exact gup_s | (refine gup_t (by assumption) ?_; first | assumption | exact gup_s | (refine gup_t (by assumption) ?_; first | assumption | exact gup_s | (refine gup_t (by assumption) ?_; first | assumption | exact gup_s)))) (by first | rfl | assumption) (by first | rfl | decide | assumption) ?_
  refine ri_return h d_Bx_init_9 (Nat.le_of_ble_eq_true rfl) (Nat.le_of_ble_eq_true rfl) ?_
  exact ⟨rfl, rfl⟩
theorem k_Bx_clear (h0 : g_0 l D s0) (hM : M a = some (bx x0 y0 x1 y1 n)) : Ct l D s0 y_Bx_clear (Cond.code y_Bx_clear b_Bx_clear 1 none) (rk 0 0 0) [.ref a] M (fR none (gup M a (bx x0 y0 x1 y1 1))) := by
  refine Ct.of h0 (by decide +kernel) rfl fun X hX h => ?_
  obtain ⟨p_, l', e_, R_, s_, m_, ar_, be_, me_, c_⟩ := X
  obtain rfl : l' = l := hX
  refine ri_aload_n h d_Bx_clear_0 rfl ?_
  refine ri_iconst h 1 d_Bx_clear_1 rfl ?_
  refine ri_put h d_Bx_clear_2 fl_Bx_7 (fun r hr => by cases hr; rfl) (by first | assumption | exact gup_s | (refine gup_t (by assumption) ?_; first | assumption | exact gup_s | (refine gup_t (by assumption) ?_; first | assumption | exact gup_s | (refine gup_t (by assumption) ?_; first | assumption | exact gup_s)))) (by first | rfl | assumption) (by first | rfl | decide | assumption) ?_
  refine ri_return h d_Bx_clear_5 (Nat.le_of_ble_eq_true rfl) (Nat.le_of_ble_eq_true rfl) ?_
  exact ⟨rfl, rfl⟩
theorem k_Bx_hold (h0 : g_0 l D s0) (hM : M a = some (bx x0 y0 x1 y1 n)) (u v w t : Int64) : Ct l D s0 y_Bx_hold (Cond.code y_Bx_hold b_Bx_hold 9 none) (rk 1 0 0) [.ref a, .long u, .long v, .long w, .long t] M (fR none (gup M a (bx (hmin n x0 u) (hmin n y0 v) (hmax n x1 w) (hmax n y1 t) 0))) := by
  refine Ct.of h0 (by decide +kernel) rfl fun X hX h => ?_
  obtain ⟨p_, l', e_, R_, s_, m_, ar_, be_, me_, c_⟩ := X
  obtain rfl : l' = l := hX
  by_cases hn : n = 0
  · refine ri_aload_n h d_Bx_hold_0 rfl ?_
    refine ri_aload_n h d_Bx_hold_1 rfl ?_
    refine ri_get h d_Bx_hold_2 fl_Bx_7 (by first | assumption | exact gup_s | (refine gup_t (by assumption) ?_; first | assumption | exact gup_s | (refine gup_t (by assumption) ?_; first | assumption | exact gup_s | (refine gup_t (by assumption) ?_; first | assumption | exact gup_s)))) (by rfl) ?_
    refine ri_if_eq h 12 d_Bx_hold_5 (by decide) (fun c_5 => ?_) (fun c_5 => ?_)
    · refine ri_aload_n h d_Bx_hold_12 rfl ?_
      refine ri_get h d_Bx_hold_13 fl_Bx_13 (by first | assumption | exact gup_s | (refine gup_t (by assumption) ?_; first | assumption | exact gup_s | (refine gup_t (by assumption) ?_; first | assumption | exact gup_s | (refine gup_t (by assumption) ?_; first | assumption | exact gup_s)))) (by rfl) ?_
      refine ri_lload_n h d_Bx_hold_16 rfl ?_
      refine ri_cSv h [.long x0, .long u] [.ref a] d_Bx_hold_17 cs_Bx_17 (m_min_l h0 _ _ _) rfl rfl (Nat.le_of_ble_eq_true rfl) (Nat.le_of_ble_eq_true rfl) (Nat.le_of_ble_eq_true rfl) (Nat.le_of_ble_eq_true rfl) (Nat.le_of_ble_eq_true rfl) ?_
      refine ri_put h d_Bx_hold_20 fl_Bx_13 (fun r hr => by cases hr; rfl) (by first | assumption | exact gup_s | (refine gup_t (by assumption) ?_; first | assumption | exact gup_s | (refine gup_t (by assumption) ?_; first | assumption | exact gup_s | (refine gup_t (by assumption) ?_; first | assumption | exact gup_s)))) (by first | rfl | assumption) (by first | rfl | decide | assumption) ?_
      refine ri_aload_n h d_Bx_hold_23 rfl ?_
      refine ri_aload_n h d_Bx_hold_24 rfl ?_
      refine ri_get h d_Bx_hold_25 fl_Bx_7 (by first | assumption | exact gup_s | (refine gup_t (by assumption) ?_; first | assumption | exact gup_s | (refine gup_t (by assumption) ?_; first | assumption | exact gup_s | (refine gup_t (by assumption) ?_; first | assumption | exact gup_s)))) (by rfl) ?_
      refine ri_if_eq h 35 d_Bx_hold_28 (by decide) (fun c_28 => ?_) (fun c_28 => ?_)
      · refine ri_aload_n h d_Bx_hold_35 rfl ?_
        refine ri_get h d_Bx_hold_36 fl_Bx_23 (by first | assumption | exact gup_s | (refine gup_t (by assumption) ?_; first | assumption | exact gup_s | (refine gup_t (by assumption) ?_; first | assumption | exact gup_s | (refine gup_t (by assumption) ?_; first | assumption | exact gup_s)))) (by rfl) ?_
        refine ri_lload_n h d_Bx_hold_39 rfl ?_
        refine ri_cSv h [.long y0, .long v] [.ref a] d_Bx_hold_40 cs_Bx_17 (m_min_l h0 _ _ _) rfl rfl (Nat.le_of_ble_eq_true rfl) (Nat.le_of_ble_eq_true rfl) (Nat.le_of_ble_eq_true rfl) (Nat.le_of_ble_eq_true rfl) (Nat.le_of_ble_eq_true rfl) ?_
        refine ri_put h d_Bx_hold_43 fl_Bx_23 (fun r hr => by cases hr; rfl) (by first | assumption | exact gup_s | (refine gup_t (by assumption) ?_; first | assumption | exact gup_s | (refine gup_t (by assumption) ?_; first | assumption | exact gup_s | (refine gup_t (by assumption) ?_; first | assumption | exact gup_s)))) (by first | rfl | assumption) (by first | rfl | decide | assumption) ?_
        refine ri_aload_n h d_Bx_hold_46 rfl ?_
        refine ri_aload_n h d_Bx_hold_47 rfl ?_
        refine ri_get h d_Bx_hold_48 fl_Bx_7 (by first | assumption | exact gup_s | (refine gup_t (by assumption) ?_; first | assumption | exact gup_s | (refine gup_t (by assumption) ?_; first | assumption | exact gup_s | (refine gup_t (by assumption) ?_; first | assumption | exact gup_s)))) (by rfl) ?_
        refine ri_if_eq h 59 d_Bx_hold_51 (by decide) (fun c_51 => ?_) (fun c_51 => ?_)
        · refine ri_aload_n h d_Bx_hold_59 rfl ?_
          refine ri_get h d_Bx_hold_60 fl_Bx_26 (by first | assumption | exact gup_s | (refine gup_t (by assumption) ?_; first | assumption | exact gup_s | (refine gup_t (by assumption) ?_; first | assumption | exact gup_s | (refine gup_t (by assumption) ?_; first | assumption | exact gup_s)))) (by rfl) ?_
          refine ri_lload h d_Bx_hold_63 rfl ?_
          refine ri_cSv h [.long x1, .long w] [.ref a] d_Bx_hold_65 cs_Bx_29 (m_max_l h0 _ _ _) rfl rfl (Nat.le_of_ble_eq_true rfl) (Nat.le_of_ble_eq_true rfl) (Nat.le_of_ble_eq_true rfl) (Nat.le_of_ble_eq_true rfl) (Nat.le_of_ble_eq_true rfl) ?_
          refine ri_put h d_Bx_hold_68 fl_Bx_26 (fun r hr => by cases hr; rfl) (by first | assumption | exact gup_s | (refine gup_t (by assumption) ?_; first | assumption | exact gup_s | (refine gup_t (by assumption) ?_; first | assumption | exact gup_s | (refine gup_t (by assumption) ?_; first | assumption | exact gup_s)))) (by first | rfl | assumption) (by first | rfl | decide | assumption) ?_
          refine ri_aload_n h d_Bx_hold_71 rfl ?_
          refine ri_aload_n h d_Bx_hold_72 rfl ?_
          refine ri_get h d_Bx_hold_73 fl_Bx_7 (by first | assumption | exact gup_s | (refine gup_t (by assumption) ?_; first | assumption | exact gup_s | (refine gup_t (by assumption) ?_; first | assumption | exact gup_s | (refine gup_t (by assumption) ?_; first | assumption | exact gup_s)))) (by rfl) ?_
          refine ri_if_eq h 84 d_Bx_hold_76 (by decide) (fun c_76 => ?_) (fun c_76 => ?_)
          · refine ri_aload_n h d_Bx_hold_84 rfl ?_
            refine ri_get h d_Bx_hold_85 fl_Bx_32 (by first | assumption | exact gup_s | (refine gup_t (by assumption) ?_; first | assumption | exact gup_s | (refine gup_t (by assumption) ?_; first | assumption | exact gup_s | (refine gup_t (by assumption) ?_; first | assumption | exact gup_s)))) (by rfl) ?_
            refine ri_lload h d_Bx_hold_88 rfl ?_
            refine ri_cSv h [.long y1, .long t] [.ref a] d_Bx_hold_90 cs_Bx_29 (m_max_l h0 _ _ _) rfl rfl (Nat.le_of_ble_eq_true rfl) (Nat.le_of_ble_eq_true rfl) (Nat.le_of_ble_eq_true rfl) (Nat.le_of_ble_eq_true rfl) (Nat.le_of_ble_eq_true rfl) ?_
            refine ri_put h d_Bx_hold_93 fl_Bx_32 (fun r hr => by cases hr; rfl) (by first | assumption | exact gup_s | (refine gup_t (by assumption) ?_; first | assumption | exact gup_s | (refine gup_t (by assumption) ?_; first | assumption | exact gup_s | (refine gup_t (by assumption) ?_; first | assumption | exact gup_s)))) (by first | rfl | assumption) (by first | rfl | decide | assumption) ?_
            refine ri_aload_n h d_Bx_hold_96 rfl ?_
            refine ri_iconst h 0 d_Bx_hold_97 rfl ?_
            refine ri_put h d_Bx_hold_98 fl_Bx_7 (fun r hr => by cases hr; rfl) (by first | assumption | exact gup_s | (refine gup_t (by assumption) ?_; first | assumption | exact gup_s | (refine gup_t (by assumption) ?_; first | assumption | exact gup_s | (refine gup_t (by assumption) ?_; first | assumption | exact gup_s)))) (by first | rfl | assumption) (by first | rfl | decide | assumption) ?_
            refine ri_return h d_Bx_hold_101 (Nat.le_of_ble_eq_true rfl) (Nat.le_of_ble_eq_true rfl) ?_
            exact ⟨rfl, by rw [gup_u, gup_u, gup_u, gup_u, hmin, hmin, hmax, hmax, if_pos hn, if_pos hn, if_pos hn, if_pos hn]; rfl⟩
          · exact absurd hn c_76
        · exact absurd hn c_51
      · exact absurd hn c_28
    · exact absurd hn c_5
  · refine ri_aload_n h d_Bx_hold_0 rfl ?_
    refine ri_aload_n h d_Bx_hold_1 rfl ?_
    refine ri_get h d_Bx_hold_2 fl_Bx_7 (by first | assumption | exact gup_s | (refine gup_t (by assumption) ?_; first | assumption | exact gup_s | (refine gup_t (by assumption) ?_; first | assumption | exact gup_s | (refine gup_t (by assumption) ?_; first | assumption | exact gup_s)))) (by rfl) ?_
    refine ri_if_eq h 12 d_Bx_hold_5 (by decide) (fun c_5 => ?_) (fun c_5 => ?_)
    · exact absurd c_5 hn
    · refine ri_lload_n h d_Bx_hold_8 rfl ?_
      refine ri_goto h 20 d_Bx_hold_9 (by decide) ?_
      refine ri_put h d_Bx_hold_20 fl_Bx_13 (fun r hr => by cases hr; rfl) (by first | assumption | exact gup_s | (refine gup_t (by assumption) ?_; first | assumption | exact gup_s | (refine gup_t (by assumption) ?_; first | assumption | exact gup_s | (refine gup_t (by assumption) ?_; first | assumption | exact gup_s)))) (by first | rfl | assumption) (by first | rfl | decide | assumption) ?_
      refine ri_aload_n h d_Bx_hold_23 rfl ?_
      refine ri_aload_n h d_Bx_hold_24 rfl ?_
      refine ri_get h d_Bx_hold_25 fl_Bx_7 (by first | assumption | exact gup_s | (refine gup_t (by assumption) ?_; first | assumption | exact gup_s | (refine gup_t (by assumption) ?_; first | assumption | exact gup_s | (refine gup_t (by assumption) ?_; first | assumption | exact gup_s)))) (by rfl) ?_
      refine ri_if_eq h 35 d_Bx_hold_28 (by decide) (fun c_28 => ?_) (fun c_28 => ?_)
      · exact absurd c_28 hn
      · refine ri_lload_n h d_Bx_hold_31 rfl ?_
        refine ri_goto h 43 d_Bx_hold_32 (by decide) ?_
        refine ri_put h d_Bx_hold_43 fl_Bx_23 (fun r hr => by cases hr; rfl) (by first | assumption | exact gup_s | (refine gup_t (by assumption) ?_; first | assumption | exact gup_s | (refine gup_t (by assumption) ?_; first | assumption | exact gup_s | (refine gup_t (by assumption) ?_; first | assumption | exact gup_s)))) (by first | rfl | assumption) (by first | rfl | decide | assumption) ?_
        refine ri_aload_n h d_Bx_hold_46 rfl ?_
        refine ri_aload_n h d_Bx_hold_47 rfl ?_
        refine ri_get h d_Bx_hold_48 fl_Bx_7 (by first | assumption | exact gup_s | (refine gup_t (by assumption) ?_; first | assumption | exact gup_s | (refine gup_t (by assumption) ?_; first | assumption | exact gup_s | (refine gup_t (by assumption) ?_; first | assumption | exact gup_s)))) (by rfl) ?_
        refine ri_if_eq h 59 d_Bx_hold_51 (by decide) (fun c_51 => ?_) (fun c_51 => ?_)
        · exact absurd c_51 hn
        · refine ri_lload h d_Bx_hold_54 rfl ?_
          refine ri_goto h 68 d_Bx_hold_56 (by decide) ?_
          refine ri_put h d_Bx_hold_68 fl_Bx_26 (fun r hr => by cases hr; rfl) (by first | assumption | exact gup_s | (refine gup_t (by assumption) ?_; first | assumption | exact gup_s | (refine gup_t (by assumption) ?_; first | assumption | exact gup_s | (refine gup_t (by assumption) ?_; first | assumption | exact gup_s)))) (by first | rfl | assumption) (by first | rfl | decide | assumption) ?_
          refine ri_aload_n h d_Bx_hold_71 rfl ?_
          refine ri_aload_n h d_Bx_hold_72 rfl ?_
          refine ri_get h d_Bx_hold_73 fl_Bx_7 (by first | assumption | exact gup_s | (refine gup_t (by assumption) ?_; first | assumption | exact gup_s | (refine gup_t (by assumption) ?_; first | assumption | exact gup_s | (refine gup_t (by assumption) ?_; first | assumption | exact gup_s)))) (by rfl) ?_
          refine ri_if_eq h 84 d_Bx_hold_76 (by decide) (fun c_76 => ?_) (fun c_76 => ?_)
          · exact absurd c_76 hn
          · refine ri_lload h d_Bx_hold_79 rfl ?_
            refine ri_goto h 93 d_Bx_hold_81 (by decide) ?_
            refine ri_put h d_Bx_hold_93 fl_Bx_32 (fun r hr => by cases hr; rfl) (by first | assumption | exact gup_s | (refine gup_t (by assumption) ?_; first | assumption | exact gup_s | (refine gup_t (by assumption) ?_; first | assumption | exact gup_s | (refine gup_t (by assumption) ?_; first | assumption | exact gup_s)))) (by first | rfl | assumption) (by first | rfl | decide | assumption) ?_
            refine ri_aload_n h d_Bx_hold_96 rfl ?_
            refine ri_iconst h 0 d_Bx_hold_97 rfl ?_
            refine ri_put h d_Bx_hold_98 fl_Bx_7 (fun r hr => by cases hr; rfl) (by first | assumption | exact gup_s | (refine gup_t (by assumption) ?_; first | assumption | exact gup_s | (refine gup_t (by assumption) ?_; first | assumption | exact gup_s | (refine gup_t (by assumption) ?_; first | assumption | exact gup_s)))) (by first | rfl | assumption) (by first | rfl | decide | assumption) ?_
            refine ri_return h d_Bx_hold_101 (Nat.le_of_ble_eq_true rfl) (Nat.le_of_ble_eq_true rfl) ?_
            exact ⟨rfl, by rw [gup_u, gup_u, gup_u, gup_u, hmin, hmin, hmax, hmax, if_neg hn, if_neg hn, if_neg hn, if_neg hn]; rfl⟩
end BX
