/-! hold, piece, boxOf: the model -/
abbrev mbx (N : MS) : BxR := (N.x0, N.y0, N.x1, N.y1, 1 - N.any)
abbrev mset (N : MS) (b : BxR) : MS := ((((N.set_x0 b.x0).set_y0 b.y0).set_x1 b.x1).set_y1 b.y1).set_any 1
theorem mbx_s {N : MS} {b : BxR} (h : b.n = 0) : mbx (mset N b) = b := by
  obtain ⟨x0, y0, x1, y1, n⟩ := b
  have h : n = 0 := h
  subst h
  show (x0, y0, x1, y1, (1 : Int32) - 1) = (x0, y0, x1, y1, 0)
  rw [show (1 : Int32) - 1 = 0 by decide]
abbrev bpt (b : BxR) (x y : Int64) : BxR := bhold b x y x y
theorem bh0 {N : MS} (ha : N.any = nI 0) (x y : Int64) : bpt (mbx N) x y = (x, y, x, y, 0) := by
  have e : ¬ (1 - N.any : Int32) = 0 := by rw [ha]; decide
  show ((if (1 - N.any : Int32) = 0 then jmin N.x0 x else x), (if (1 - N.any : Int32) = 0 then jmin N.y0 y else y), (if (1 - N.any : Int32) = 0 then jmax N.x1 x else x), (if (1 - N.any : Int32) = 0 then jmax N.y1 y else y), (0 : Int32)) = _
  rw [if_neg e, if_neg e, if_neg e, if_neg e]
theorem bh1 {N : MS} (ha : N.any = nI 1) (x y : Int64) : bpt (mbx N) x y = (jmin N.x0 x, jmin N.y0 y, jmax N.x1 x, jmax N.y1 y, 0) := by
  have e : (1 - N.any : Int32) = 0 := by rw [ha]; decide
  show ((if (1 - N.any : Int32) = 0 then jmin N.x0 x else x), (if (1 - N.any : Int32) = 0 then jmin N.y0 y else y), (if (1 - N.any : Int32) = 0 then jmax N.x1 x else x), (if (1 - N.any : Int32) = 0 then jmax N.y1 y else y), (0 : Int32)) = _
  rw [if_pos e, if_pos e, if_pos e, if_pos e]
theorem jmin_t {a b : Int64} (h : b < a) : jmin a b = b := if_pos h
theorem jmin_f {a b : Int64} (h : ¬ b < a) : jmin a b = a := if_neg h
theorem jmax_t {a b : Int64} (h : a < b) : jmax a b = b := if_pos h
theorem jmax_f {a b : Int64} (h : ¬ a < b) : jmax a b = a := if_neg h
section BXO
variable {l : Launch} {D : gD} {s0 : State} {M : gH} {z : Nat} {ad : gA} {Q Qc : CS} {N : MS}
theorem k_mhold (h0 : g_0 l D s0) (hS : HS z ad Qc N M) (ha : N.any = 0 ∨ N.any = 1) {x y : Int64} : Ct l D s0 y_Md_hold (Cond.code y_Md_hold b_Md_hold 5 none) (rk 1 0 0) [.ref (ad 30 0), .long x, .long y] M (fS none (HS z ad Qc (mset N (bpt (mbx N) x y)))) := by
  rcases ha with ha | ha
  · have hany : N.any = nI 0 := ha
    rw [bh0 hany]
    refine Ct.of h0 (by decide +kernel) rfl fun X hX h => ?_
    obtain ⟨p_, l', e_, R_, s_, m_, ar_, be_, me_, c_⟩ := X
    obtain rfl : l' = l := hX
    refine ri_aload_n h d_Md_hold_0 rfl ?_
    refine ri_aload_n h d_Md_hold_1 rfl ?_
    refine ri_get h d_Md_hold_2 fl_Md_192 (by first | assumption | exact hS.mo | exact gup_s) (by first | exact congrArg (fun x => some (Value.int x)) hany | rfl) ?_
    first | refine ri_ifB_eq h 17 d_Md_hold_5 (by decide) (fun c_5 => ?_) (fun c_5 => ?_) | refine ri_ifN_eq h 17 d_Md_hold_5 (by decide) (by omega) (fun c_5 => ?_) (fun c_5 => ?_) | refine ri_if_eq h 17 d_Md_hold_5 (by decide) (fun c_5 => ?_) (fun c_5 => ?_)
    · refine ri_lload_n h d_Md_hold_17 rfl ?_
      refine ri_goto h 25 d_Md_hold_18 (by decide) ?_
      refine ri_pm_x0 h d_Md_hold_25 fl_Md_196 hS (fun M hS => ?_)
      refine ri_aload_n h d_Md_hold_28 rfl ?_
      refine ri_aload_n h d_Md_hold_29 rfl ?_
      refine ri_get h d_Md_hold_30 fl_Md_192 (by first | assumption | exact hS.mo | exact gup_s) (by first | exact congrArg (fun x => some (Value.int x)) hany | rfl) ?_
      first | refine ri_ifB_eq h 45 d_Md_hold_33 (by decide) (fun c_33 => ?_) (fun c_33 => ?_) | refine ri_ifN_eq h 45 d_Md_hold_33 (by decide) (by omega) (fun c_33 => ?_) (fun c_33 => ?_) | refine ri_if_eq h 45 d_Md_hold_33 (by decide) (fun c_33 => ?_) (fun c_33 => ?_)
      · refine ri_lload_n h d_Md_hold_45 rfl ?_
        refine ri_goto h 53 d_Md_hold_46 (by decide) ?_
        refine ri_pm_y0 h d_Md_hold_53 fl_Md_199 hS (fun M hS => ?_)
        refine ri_aload_n h d_Md_hold_56 rfl ?_
        refine ri_aload_n h d_Md_hold_57 rfl ?_
        refine ri_get h d_Md_hold_58 fl_Md_192 (by first | assumption | exact hS.mo | exact gup_s) (by first | exact congrArg (fun x => some (Value.int x)) hany | rfl) ?_
        first | refine ri_ifB_eq h 73 d_Md_hold_61 (by decide) (fun c_61 => ?_) (fun c_61 => ?_) | refine ri_ifN_eq h 73 d_Md_hold_61 (by decide) (by omega) (fun c_61 => ?_) (fun c_61 => ?_) | refine ri_if_eq h 73 d_Md_hold_61 (by decide) (fun c_61 => ?_) (fun c_61 => ?_)
        · refine ri_lload_n h d_Md_hold_73 rfl ?_
          refine ri_goto h 81 d_Md_hold_74 (by decide) ?_
          refine ri_pm_x1 h d_Md_hold_81 fl_Md_202 hS (fun M hS => ?_)
          refine ri_aload_n h d_Md_hold_84 rfl ?_
          refine ri_aload_n h d_Md_hold_85 rfl ?_
          refine ri_get h d_Md_hold_86 fl_Md_192 (by first | assumption | exact hS.mo | exact gup_s) (by first | exact congrArg (fun x => some (Value.int x)) hany | rfl) ?_
          first | refine ri_ifB_eq h 101 d_Md_hold_89 (by decide) (fun c_89 => ?_) (fun c_89 => ?_) | refine ri_ifN_eq h 101 d_Md_hold_89 (by decide) (by omega) (fun c_89 => ?_) (fun c_89 => ?_) | refine ri_if_eq h 101 d_Md_hold_89 (by decide) (fun c_89 => ?_) (fun c_89 => ?_)
          · refine ri_lload_n h d_Md_hold_101 rfl ?_
            refine ri_goto h 109 d_Md_hold_102 (by decide) ?_
            refine ri_pm_y1 h d_Md_hold_109 fl_Md_205 hS (fun M hS => ?_)
            refine ri_aload_n h d_Md_hold_112 rfl ?_
            refine ri_iconstN h 1 d_Md_hold_113 rfl ?_
            refine ri_pm_any h d_Md_hold_114 fl_Md_192 hS (by first | exact Or.inl rfl | exact Or.inr rfl | assumption) (fun M hS => ?_)
            refine ri_return h d_Md_hold_117 (Nat.le_of_ble_eq_true rfl) (Nat.le_of_ble_eq_true rfl) ?_
            exact ⟨rfl, hS⟩
          · omega
        · omega
      · omega
    · omega
  · have hany : N.any = nI 1 := ha
    rw [bh1 hany]
    refine Ct.of h0 (by decide +kernel) rfl fun X hX h => ?_
    obtain ⟨p_, l', e_, R_, s_, m_, ar_, be_, me_, c_⟩ := X
    obtain rfl : l' = l := hX
    have J109 : ∀ (M : gH) (v : Int64), v = jmax N.y1 y → HS z ad Qc (((N.set_x0 (jmin N.x0 x)).set_y0 (jmin N.y0 y)).set_x1 (jmax N.x1 x)) M → G (gzz D s0 (p_, l', e_, R_, s_, m_, ar_, be_, me_, c_) (rk 1 0 0) (fS none (HS z ad Qc (mset N (jmin N.x0 x, jmin N.y0 y, jmax N.x1 x, jmax N.y1 y, 0)))) 5) 109 [(0, .ref (ad 30 0))] [.long v, .ref (ad 30 0)] M 0 0 := by
      intro M v hv hS
      subst hv
      refine ri_pm_y1 h d_Md_hold_109 fl_Md_205 hS (fun M hS => ?_)
      refine ri_aload_n h d_Md_hold_112 rfl ?_
      refine ri_iconstN h 1 d_Md_hold_113 rfl ?_
      refine ri_pm_any h d_Md_hold_114 fl_Md_192 hS (by first | exact Or.inl rfl | exact Or.inr rfl | assumption) (fun M hS => ?_)
      refine ri_return h d_Md_hold_117 (Nat.le_of_ble_eq_true rfl) (Nat.le_of_ble_eq_true rfl) ?_
      exact ⟨rfl, hS⟩
    have J81 : ∀ (M : gH) (v : Int64), v = jmax N.x1 x → HS z ad Qc ((N.set_x0 (jmin N.x0 x)).set_y0 (jmin N.y0 y)) M → G (gzz D s0 (p_, l', e_, R_, s_, m_, ar_, be_, me_, c_) (rk 1 0 0) (fS none (HS z ad Qc (mset N (jmin N.x0 x, jmin N.y0 y, jmax N.x1 x, jmax N.y1 y, 0)))) 5) 81 [(0, .ref (ad 30 0)), (1, .long x), (3, .long y)] [.long v, .ref (ad 30 0)] M 0 0 := by
      intro M v hv hS
      subst hv
      refine ri_pm_x1 h d_Md_hold_81 fl_Md_202 hS (fun M hS => ?_)
      refine ri_aload_n h d_Md_hold_84 rfl ?_
      refine ri_aload_n h d_Md_hold_85 rfl ?_
      refine ri_get h d_Md_hold_86 fl_Md_192 (by first | assumption | exact hS.mo | exact gup_s) (by first | exact congrArg (fun x => some (Value.int x)) hany | rfl) ?_
      first | refine ri_ifB_eq h 101 d_Md_hold_89 (by decide) (fun c_89 => ?_) (fun c_89 => ?_) | refine ri_ifN_eq h 101 d_Md_hold_89 (by decide) (by omega) (fun c_89 => ?_) (fun c_89 => ?_) | refine ri_if_eq h 101 d_Md_hold_89 (by decide) (fun c_89 => ?_) (fun c_89 => ?_)
      · omega
      · refine ri_lload_n h d_Md_hold_92 rfl ?_
        refine ri_aload_n h d_Md_hold_93 rfl ?_
        refine ri_get h d_Md_hold_94 fl_Md_205 (by first | assumption | exact hS.mo | exact gup_s) (by rfl) ?_
        refine ri_lcmp_le h 105 d_Md_hold_97 d_Md_hold_98 (by decide) (fun c_97 => ?_) (fun c_97 => ?_)
        · refine ri_aload_n h d_Md_hold_105 rfl ?_
          refine ri_get h d_Md_hold_106 fl_Md_205 (by first | assumption | exact hS.mo | exact gup_s) (by rfl) ?_
          exact ri_ls [(0, .ref (ad 30 0))] ⟨rfl, trivial⟩ (J109 _ _ (by first | exact (jmax_t (Int64.not_le.mp c_97)).symm | exact (jmax_f (Int64.not_lt.mpr c_97)).symm) hS)
        · refine ri_lload_n h d_Md_hold_101 rfl ?_
          refine ri_goto h 109 d_Md_hold_102 (by decide) ?_
          exact ri_ls [(0, .ref (ad 30 0))] ⟨rfl, trivial⟩ (J109 _ _ (by first | exact (jmax_t (Int64.not_le.mp c_97)).symm | exact (jmax_f (Int64.not_lt.mpr c_97)).symm) hS)
    have J53 : ∀ (M : gH) (v : Int64), v = jmin N.y0 y → HS z ad Qc (N.set_x0 (jmin N.x0 x)) M → G (gzz D s0 (p_, l', e_, R_, s_, m_, ar_, be_, me_, c_) (rk 1 0 0) (fS none (HS z ad Qc (mset N (jmin N.x0 x, jmin N.y0 y, jmax N.x1 x, jmax N.y1 y, 0)))) 5) 53 [(0, .ref (ad 30 0)), (1, .long x), (3, .long y)] [.long v, .ref (ad 30 0)] M 0 0 := by
      intro M v hv hS
      subst hv
      refine ri_pm_y0 h d_Md_hold_53 fl_Md_199 hS (fun M hS => ?_)
      refine ri_aload_n h d_Md_hold_56 rfl ?_
      refine ri_aload_n h d_Md_hold_57 rfl ?_
      refine ri_get h d_Md_hold_58 fl_Md_192 (by first | assumption | exact hS.mo | exact gup_s) (by first | exact congrArg (fun x => some (Value.int x)) hany | rfl) ?_
      first | refine ri_ifB_eq h 73 d_Md_hold_61 (by decide) (fun c_61 => ?_) (fun c_61 => ?_) | refine ri_ifN_eq h 73 d_Md_hold_61 (by decide) (by omega) (fun c_61 => ?_) (fun c_61 => ?_) | refine ri_if_eq h 73 d_Md_hold_61 (by decide) (fun c_61 => ?_) (fun c_61 => ?_)
      · omega
      · refine ri_lload_n h d_Md_hold_64 rfl ?_
        refine ri_aload_n h d_Md_hold_65 rfl ?_
        refine ri_get h d_Md_hold_66 fl_Md_202 (by first | assumption | exact hS.mo | exact gup_s) (by rfl) ?_
        refine ri_lcmp_le h 77 d_Md_hold_69 d_Md_hold_70 (by decide) (fun c_69 => ?_) (fun c_69 => ?_)
        · refine ri_aload_n h d_Md_hold_77 rfl ?_
          refine ri_get h d_Md_hold_78 fl_Md_202 (by first | assumption | exact hS.mo | exact gup_s) (by rfl) ?_
          exact ri_ls [(0, .ref (ad 30 0)), (1, .long x), (3, .long y)] ⟨rfl, rfl, rfl, trivial⟩ (J81 _ _ (by first | exact (jmax_t (Int64.not_le.mp c_69)).symm | exact (jmax_f (Int64.not_lt.mpr c_69)).symm) hS)
        · refine ri_lload_n h d_Md_hold_73 rfl ?_
          refine ri_goto h 81 d_Md_hold_74 (by decide) ?_
          exact ri_ls [(0, .ref (ad 30 0)), (1, .long x), (3, .long y)] ⟨rfl, rfl, rfl, trivial⟩ (J81 _ _ (by first | exact (jmax_t (Int64.not_le.mp c_69)).symm | exact (jmax_f (Int64.not_lt.mpr c_69)).symm) hS)
    have J25 : ∀ (v : Int64), v = jmin N.x0 x → G (gzz D s0 (p_, l', e_, R_, s_, m_, ar_, be_, me_, c_) (rk 1 0 0) (fS none (HS z ad Qc (mset N (jmin N.x0 x, jmin N.y0 y, jmax N.x1 x, jmax N.y1 y, 0)))) 5) 25 [(0, .ref (ad 30 0)), (1, .long x), (3, .long y)] [.long v, .ref (ad 30 0)] M 0 0 := by
      intro v hv
      subst hv
      refine ri_pm_x0 h d_Md_hold_25 fl_Md_196 hS (fun M hS => ?_)
      refine ri_aload_n h d_Md_hold_28 rfl ?_
      refine ri_aload_n h d_Md_hold_29 rfl ?_
      refine ri_get h d_Md_hold_30 fl_Md_192 (by first | assumption | exact hS.mo | exact gup_s) (by first | exact congrArg (fun x => some (Value.int x)) hany | rfl) ?_
      first | refine ri_ifB_eq h 45 d_Md_hold_33 (by decide) (fun c_33 => ?_) (fun c_33 => ?_) | refine ri_ifN_eq h 45 d_Md_hold_33 (by decide) (by omega) (fun c_33 => ?_) (fun c_33 => ?_) | refine ri_if_eq h 45 d_Md_hold_33 (by decide) (fun c_33 => ?_) (fun c_33 => ?_)
      · omega
      · refine ri_lload_n h d_Md_hold_36 rfl ?_
        refine ri_aload_n h d_Md_hold_37 rfl ?_
        refine ri_get h d_Md_hold_38 fl_Md_199 (by first | assumption | exact hS.mo | exact gup_s) (by rfl) ?_
        refine ri_lcmp_ge h 49 d_Md_hold_41 d_Md_hold_42 (by decide) (fun c_41 => ?_) (fun c_41 => ?_)
        · refine ri_aload_n h d_Md_hold_49 rfl ?_
          refine ri_get h d_Md_hold_50 fl_Md_199 (by first | assumption | exact hS.mo | exact gup_s) (by rfl) ?_
          exact ri_ls [(0, .ref (ad 30 0)), (1, .long x), (3, .long y)] ⟨rfl, rfl, rfl, trivial⟩ (J53 _ _ (by first | exact (jmin_t (Int64.not_le.mp c_41)).symm | exact (jmin_f (Int64.not_lt.mpr c_41)).symm) hS)
        · refine ri_lload_n h d_Md_hold_45 rfl ?_
          refine ri_goto h 53 d_Md_hold_46 (by decide) ?_
          exact ri_ls [(0, .ref (ad 30 0)), (1, .long x), (3, .long y)] ⟨rfl, rfl, rfl, trivial⟩ (J53 _ _ (by first | exact (jmin_t (Int64.not_le.mp c_41)).symm | exact (jmin_f (Int64.not_lt.mpr c_41)).symm) hS)
    refine ri_aload_n h d_Md_hold_0 rfl ?_
    refine ri_aload_n h d_Md_hold_1 rfl ?_
    refine ri_get h d_Md_hold_2 fl_Md_192 (by first | assumption | exact hS.mo | exact gup_s) (by first | exact congrArg (fun x => some (Value.int x)) hany | rfl) ?_
    first | refine ri_ifB_eq h 17 d_Md_hold_5 (by decide) (fun c_5 => ?_) (fun c_5 => ?_) | refine ri_ifN_eq h 17 d_Md_hold_5 (by decide) (by omega) (fun c_5 => ?_) (fun c_5 => ?_) | refine ri_if_eq h 17 d_Md_hold_5 (by decide) (fun c_5 => ?_) (fun c_5 => ?_)
    · omega
    · refine ri_lload_n h d_Md_hold_8 rfl ?_
      refine ri_aload_n h d_Md_hold_9 rfl ?_
      refine ri_get h d_Md_hold_10 fl_Md_196 (by first | assumption | exact hS.mo | exact gup_s) (by rfl) ?_
      refine ri_lcmp_ge h 21 d_Md_hold_13 d_Md_hold_14 (by decide) (fun c_13 => ?_) (fun c_13 => ?_)
      · refine ri_aload_n h d_Md_hold_21 rfl ?_
        refine ri_get h d_Md_hold_22 fl_Md_196 (by first | assumption | exact hS.mo | exact gup_s) (by rfl) ?_
        exact ri_ls [(0, .ref (ad 30 0)), (1, .long x), (3, .long y)] ⟨rfl, rfl, rfl, trivial⟩ (J25 _ (by first | exact (jmin_t (Int64.not_le.mp c_13)).symm | exact (jmin_f (Int64.not_lt.mpr c_13)).symm))
      · refine ri_lload_n h d_Md_hold_17 rfl ?_
        refine ri_goto h 25 d_Md_hold_18 (by decide) ?_
        exact ri_ls [(0, .ref (ad 30 0)), (1, .long x), (3, .long y)] ⟨rfl, rfl, rfl, trivial⟩ (J25 _ (by first | exact (jmin_t (Int64.not_le.mp c_13)).symm | exact (jmin_f (Int64.not_lt.mpr c_13)).symm))
/-- the two points that the model holds -/
def pw (a b : Int64) : Int64 := if a < b then 1 else -1
def pcB (q : BxR) (ax ay bx by_ h m e : Int64) : BxR := if ay = by_ then bpt (bpt q (ax - pw ax bx * m) (ay - h)) (bx + pw ax bx * e) (ay + h) else bpt (bpt q (ax - h) (ay - pw ay by_ * m)) (ax + h) (by_ + pw ay by_ * e)
theorem k_mpiece (h0 : g_0 l D s0) (hS : HS z ad Qc N M) (ha : N.any = 0 ∨ N.any = 1) {ax ay bx by_ hh m e : Int64} : Ct l D s0 y_Md_piece (Cond.code y_Md_piece b_Md_piece 17 none) (rk 2 0 0) [.ref (ad 30 0), .long ax, .long ay, .long bx, .long by_, .long hh, .long m, .long e] M (fS none (HS z ad Qc (mset N (pcB (mbx N) ax ay bx by_ hh m e)))) := by
  by_cases hy : ay = by_
  · have hp : pcB (mbx N) ax ay bx by_ hh m e = bpt (bpt (mbx N) (ax - pw ax bx * m) (ay - hh)) (bx + pw ax bx * e) (ay + hh) := if_pos hy
    rw [hp]
    refine Ct.of h0 (by decide +kernel) rfl fun X hX h => ?_
    obtain ⟨p_, l', e_, R_, s_, m_, ar_, be_, me_, c_⟩ := X
    obtain rfl : l' = l := hX
    have J21 : ∀ v, v = pw ax bx → G (gzz D s0 (p_, l', e_, R_, s_, m_, ar_, be_, me_, c_) (rk 2 0 0) (fS none (HS z ad Qc (mset N (bpt (bpt (mbx N) (ax - pw ax bx * m) (ay - hh)) (bx + pw ax bx * e) (ay + hh))))) 17) 21 [(0, .ref (ad 30 0)), (1, .long ax), (3, .long ay), (5, .long bx), (7, .long by_), (9, .long hh), (11, .long m), (13, .long e)] [.long v] M 0 0 := by
      intro v hv
      subst hv
      refine ri_lstore h d_Md_piece_21 (Nat.le_of_ble_eq_true rfl) ?_
      refine ri_aload_n h d_Md_piece_23 rfl ?_
      refine ri_lload_n h d_Md_piece_24 rfl ?_
      refine ri_lload h d_Md_piece_25 rfl ?_
      refine ri_lload h d_Md_piece_27 rfl ?_
      first | refine ri_lmulN h d_Md_piece_29 ?_ | refine ri_lmul h d_Md_piece_29 ?_
      refine ri_lsub h d_Md_piece_30 ?_
      refine ri_lload_n h d_Md_piece_31 rfl ?_
      refine ri_lload h d_Md_piece_32 rfl ?_
      refine ri_lsub h d_Md_piece_34 ?_
      refine ri_dV0_2 (r := (gR6, gT6, 44)) h d_Md_piece_35 cv_Md_210 (by first | exact hS.lcO | exact hS.lsO | exact hS.lpO | exact hS.cesO (by first | assumption | omega) | exact hS.cepO (by first | assumption | omega) | exact ⟨_, (by first | assumption | exact hS.st | exact hS.mo | exact hS.out | exact hS.sb | exact hS.ce (by first | assumption | omega) | exact hS.ceb (by first | assumption | omega) | exact hS.sh (by first | assumption | omega) | exact hS.shb (by first | assumption | omega) | exact hS.pl (by first | assumption | omega) | exact hS.plb (by first | assumption | omega) | exact hS.fl (by first | assumption | omega) | exact gup_s | (refine gup_t (by assumption) ?_; first | assumption | exact gup_s | (refine gup_t (by assumption) ?_; first | assumption | exact gup_s | (refine gup_t (by assumption) ?_; first | assumption | exact gup_s))))⟩) rfl (k_mhold h0 hS ha) (Nat.le_of_ble_eq_true rfl) (Nat.le_of_ble_eq_true rfl) (Nat.le_of_ble_eq_true rfl) (Nat.le_of_ble_eq_true rfl) (Nat.le_of_ble_eq_true rfl) (fun M hS => ?_)
      refine ri_aload_n h d_Md_piece_38 rfl ?_
      refine ri_lload h d_Md_piece_39 rfl ?_
      refine ri_lload h d_Md_piece_41 rfl ?_
      refine ri_lload h d_Md_piece_43 rfl ?_
      first | refine ri_lmulN h d_Md_piece_45 ?_ | refine ri_lmul h d_Md_piece_45 ?_
      first | refine ri_laddN h d_Md_piece_46 ?_ | refine ri_ladd h d_Md_piece_46 ?_
      refine ri_lload_n h d_Md_piece_47 rfl ?_
      refine ri_lload h d_Md_piece_48 rfl ?_
      first | refine ri_laddN h d_Md_piece_50 ?_ | refine ri_ladd h d_Md_piece_50 ?_
      refine ri_dV0_2 (r := (gR6, gT6, 44)) h d_Md_piece_51 cv_Md_210 (by first | exact hS.lcO | exact hS.lsO | exact hS.lpO | exact hS.cesO (by first | assumption | omega) | exact hS.cepO (by first | assumption | omega) | exact ⟨_, (by first | assumption | exact hS.st | exact hS.mo | exact hS.out | exact hS.sb | exact hS.ce (by first | assumption | omega) | exact hS.ceb (by first | assumption | omega) | exact hS.sh (by first | assumption | omega) | exact hS.shb (by first | assumption | omega) | exact hS.pl (by first | assumption | omega) | exact hS.plb (by first | assumption | omega) | exact hS.fl (by first | assumption | omega) | exact gup_s | (refine gup_t (by assumption) ?_; first | assumption | exact gup_s | (refine gup_t (by assumption) ?_; first | assumption | exact gup_s | (refine gup_t (by assumption) ?_; first | assumption | exact gup_s))))⟩) rfl (k_mhold h0 hS (Or.inr rfl)) (Nat.le_of_ble_eq_true rfl) (Nat.le_of_ble_eq_true rfl) (Nat.le_of_ble_eq_true rfl) (Nat.le_of_ble_eq_true rfl) (Nat.le_of_ble_eq_true rfl) (fun M hS => ?_)
      rw [mbx_s rfl] at hS
      refine ri_goto h 104 d_Md_piece_54 (by decide) ?_
      refine ri_return h d_Md_piece_104 (Nat.le_of_ble_eq_true rfl) (Nat.le_of_ble_eq_true rfl) ?_
      exact ⟨rfl, hS⟩
    refine ri_lload_n h d_Md_piece_0 rfl ?_
    refine ri_lload h d_Md_piece_1 rfl ?_
    refine ri_lcmp_ne h 57 d_Md_piece_3 d_Md_piece_4 (by decide) (fun c_3 => ?_) (fun c_3 => ?_)
    · exact absurd hy c_3
    · refine ri_lload h d_Md_piece_7 rfl ?_
      refine ri_lload_n h d_Md_piece_9 rfl ?_
      refine ri_lcmp_le h 18 d_Md_piece_10 d_Md_piece_11 (by decide) (fun c_10 => ?_) (fun c_10 => ?_)
      · refine ri_ldc2 h (-1) d_Md_piece_18 kl_Md_208 ?_
        exact ri_ls [(0, .ref (ad 30 0)), (1, .long ax), (3, .long ay), (5, .long bx), (7, .long by_), (9, .long hh), (11, .long m), (13, .long e)] ⟨rfl, rfl, rfl, rfl, rfl, rfl, rfl, rfl, trivial⟩ (J21 _ (by first | exact (if_pos (Int64.not_le.mp c_10)).symm | exact (if_neg (Int64.not_lt.mpr c_10)).symm))
      · refine ri_lconst h 1 d_Md_piece_14 rfl ?_
        refine ri_goto h 21 d_Md_piece_15 (by decide) ?_
        exact ri_ls [(0, .ref (ad 30 0)), (1, .long ax), (3, .long ay), (5, .long bx), (7, .long by_), (9, .long hh), (11, .long m), (13, .long e)] ⟨rfl, rfl, rfl, rfl, rfl, rfl, rfl, rfl, trivial⟩ (J21 _ (by first | exact (if_pos (Int64.not_le.mp c_10)).symm | exact (if_neg (Int64.not_lt.mpr c_10)).symm))
  · have hp : pcB (mbx N) ax ay bx by_ hh m e = bpt (bpt (mbx N) (ax - hh) (ay - pw ay by_ * m)) (ax + hh) (by_ + pw ay by_ * e) := if_neg hy
    rw [hp]
    refine Ct.of h0 (by decide +kernel) rfl fun X hX h => ?_
    obtain ⟨p_, l', e_, R_, s_, m_, ar_, be_, me_, c_⟩ := X
    obtain rfl : l' = l := hX
    have J71 : ∀ v, v = pw ay by_ → G (gzz D s0 (p_, l', e_, R_, s_, m_, ar_, be_, me_, c_) (rk 2 0 0) (fS none (HS z ad Qc (mset N (bpt (bpt (mbx N) (ax - hh) (ay - pw ay by_ * m)) (ax + hh) (by_ + pw ay by_ * e))))) 17) 71 [(0, .ref (ad 30 0)), (1, .long ax), (3, .long ay), (5, .long bx), (7, .long by_), (9, .long hh), (11, .long m), (13, .long e)] [.long v] M 0 0 := by
      intro v hv
      subst hv
      refine ri_lstore h d_Md_piece_71 (Nat.le_of_ble_eq_true rfl) ?_
      refine ri_aload_n h d_Md_piece_73 rfl ?_
      refine ri_lload_n h d_Md_piece_74 rfl ?_
      refine ri_lload h d_Md_piece_75 rfl ?_
      refine ri_lsub h d_Md_piece_77 ?_
      refine ri_lload_n h d_Md_piece_78 rfl ?_
      refine ri_lload h d_Md_piece_79 rfl ?_
      refine ri_lload h d_Md_piece_81 rfl ?_
      first | refine ri_lmulN h d_Md_piece_83 ?_ | refine ri_lmul h d_Md_piece_83 ?_
      refine ri_lsub h d_Md_piece_84 ?_
      refine ri_dV0_2 (r := (gR6, gT6, 44)) h d_Md_piece_85 cv_Md_210 (by first | exact hS.lcO | exact hS.lsO | exact hS.lpO | exact hS.cesO (by first | assumption | omega) | exact hS.cepO (by first | assumption | omega) | exact ⟨_, (by first | assumption | exact hS.st | exact hS.mo | exact hS.out | exact hS.sb | exact hS.ce (by first | assumption | omega) | exact hS.ceb (by first | assumption | omega) | exact hS.sh (by first | assumption | omega) | exact hS.shb (by first | assumption | omega) | exact hS.pl (by first | assumption | omega) | exact hS.plb (by first | assumption | omega) | exact hS.fl (by first | assumption | omega) | exact gup_s | (refine gup_t (by assumption) ?_; first | assumption | exact gup_s | (refine gup_t (by assumption) ?_; first | assumption | exact gup_s | (refine gup_t (by assumption) ?_; first | assumption | exact gup_s))))⟩) rfl (k_mhold h0 hS ha) (Nat.le_of_ble_eq_true rfl) (Nat.le_of_ble_eq_true rfl) (Nat.le_of_ble_eq_true rfl) (Nat.le_of_ble_eq_true rfl) (Nat.le_of_ble_eq_true rfl) (fun M hS => ?_)
      refine ri_aload_n h d_Md_piece_88 rfl ?_
      refine ri_lload_n h d_Md_piece_89 rfl ?_
      refine ri_lload h d_Md_piece_90 rfl ?_
      first | refine ri_laddN h d_Md_piece_92 ?_ | refine ri_ladd h d_Md_piece_92 ?_
      refine ri_lload h d_Md_piece_93 rfl ?_
      refine ri_lload h d_Md_piece_95 rfl ?_
      refine ri_lload h d_Md_piece_97 rfl ?_
      first | refine ri_lmulN h d_Md_piece_99 ?_ | refine ri_lmul h d_Md_piece_99 ?_
      first | refine ri_laddN h d_Md_piece_100 ?_ | refine ri_ladd h d_Md_piece_100 ?_
      refine ri_dV0_2 (r := (gR6, gT6, 44)) h d_Md_piece_101 cv_Md_210 (by first | exact hS.lcO | exact hS.lsO | exact hS.lpO | exact hS.cesO (by first | assumption | omega) | exact hS.cepO (by first | assumption | omega) | exact ⟨_, (by first | assumption | exact hS.st | exact hS.mo | exact hS.out | exact hS.sb | exact hS.ce (by first | assumption | omega) | exact hS.ceb (by first | assumption | omega) | exact hS.sh (by first | assumption | omega) | exact hS.shb (by first | assumption | omega) | exact hS.pl (by first | assumption | omega) | exact hS.plb (by first | assumption | omega) | exact hS.fl (by first | assumption | omega) | exact gup_s | (refine gup_t (by assumption) ?_; first | assumption | exact gup_s | (refine gup_t (by assumption) ?_; first | assumption | exact gup_s | (refine gup_t (by assumption) ?_; first | assumption | exact gup_s))))⟩) rfl (k_mhold h0 hS (Or.inr rfl)) (Nat.le_of_ble_eq_true rfl) (Nat.le_of_ble_eq_true rfl) (Nat.le_of_ble_eq_true rfl) (Nat.le_of_ble_eq_true rfl) (Nat.le_of_ble_eq_true rfl) (fun M hS => ?_)
      rw [mbx_s rfl] at hS
      refine ri_return h d_Md_piece_104 (Nat.le_of_ble_eq_true rfl) (Nat.le_of_ble_eq_true rfl) ?_
      exact ⟨rfl, hS⟩
    refine ri_lload_n h d_Md_piece_0 rfl ?_
    refine ri_lload h d_Md_piece_1 rfl ?_
    refine ri_lcmp_ne h 57 d_Md_piece_3 d_Md_piece_4 (by decide) (fun c_3 => ?_) (fun c_3 => ?_)
    · refine ri_lload h d_Md_piece_57 rfl ?_
      refine ri_lload_n h d_Md_piece_59 rfl ?_
      refine ri_lcmp_le h 68 d_Md_piece_60 d_Md_piece_61 (by decide) (fun c_60 => ?_) (fun c_60 => ?_)
      · refine ri_ldc2 h (-1) d_Md_piece_68 kl_Md_208 ?_
        exact ri_ls [(0, .ref (ad 30 0)), (1, .long ax), (3, .long ay), (5, .long bx), (7, .long by_), (9, .long hh), (11, .long m), (13, .long e)] ⟨rfl, rfl, rfl, rfl, rfl, rfl, rfl, rfl, trivial⟩ (J71 _ (by first | exact (if_pos (Int64.not_le.mp c_60)).symm | exact (if_neg (Int64.not_lt.mpr c_60)).symm))
      · refine ri_lconst h 1 d_Md_piece_64 rfl ?_
        refine ri_goto h 71 d_Md_piece_65 (by decide) ?_
        exact ri_ls [(0, .ref (ad 30 0)), (1, .long ax), (3, .long ay), (5, .long bx), (7, .long by_), (9, .long hh), (11, .long m), (13, .long e)] ⟨rfl, rfl, rfl, rfl, rfl, rfl, rfl, rfl, trivial⟩ (J71 _ (by first | exact (if_pos (Int64.not_le.mp c_60)).symm | exact (if_neg (Int64.not_lt.mpr c_60)).symm))
    · exact absurd c_3 hy
theorem HB.bpt1 {q : BxR} {P : Pts} (h : HB q P) (x y : Int64) : HB (bhold q x y x y) (fun a b => P a b ∨ (a = x.toInt ∧ b = y.toInt)) := HB.hold (q := (x, y, x, y, 0)) (P2 := fun a b => a = x.toInt ∧ b = y.toInt) h (HB.pt x y) rfl
theorem pw_i {a b : Int64} : (pw a b).toInt = if a.toInt < b.toInt then 1 else -1 := by
  unfold pw
  by_cases h : a < b
  · rw [if_pos h, if_pos (Int64.lt_iff_toInt_lt.mp h)]
    rfl
  · rw [if_neg h, if_neg (fun q => h (Int64.lt_iff_toInt_lt.mpr q))]
    rfl
/-- a piece, by numbers that do not wrap -/
theorem HB.pieceB {q : BxR} {P : Pts} (hq : HB q P) {ax ay bx by_ h m e : Int64} (h1 : -1000000000000 ≤ ax.toInt ∧ ax.toInt ≤ 1000000000000) (h2 : -1000000000000 ≤ ay.toInt ∧ ay.toInt ≤ 1000000000000) (h3 : -1000000000000 ≤ bx.toInt ∧ bx.toInt ≤ 1000000000000) (h4 : -1000000000000 ≤ by_.toInt ∧ by_.toInt ≤ 1000000000000) (h5 : 0 ≤ h.toInt ∧ h.toInt ≤ 500) (h6 : 0 ≤ m.toInt ∧ m.toInt ≤ 500) (h7 : 0 ≤ e.toInt ∧ e.toInt ≤ 500) : HB (pcB q ax ay bx by_ h m e) (fun x y => P x y ∨ two ax.toInt ay.toInt bx.toInt by_.toInt h.toInt m.toInt e.toInt x y) := by
  have hm : ∀ a b v : Int64, 0 ≤ v.toInt ∧ v.toInt ≤ 500 → (pw a b * v).toInt = (if a.toInt < b.toInt then 1 else -1) * v.toInt ∧ -500 ≤ (pw a b * v).toInt ∧ (pw a b * v).toInt ≤ 500 := by
    intro a b v hv
    have e0 := pw_i (a := a) (b := b)
    by_cases h : a.toInt < b.toInt
    · rw [if_pos h] at e0 ⊢
      have e1 : (pw a b * v).toInt = (pw a b).toInt * v.toInt := t_mul (by rw [e0]; omega) (by rw [e0]; omega)
      rw [e0] at e1
      omega
    · rw [if_neg h] at e0 ⊢
      have e1 : (pw a b * v).toInt = (pw a b).toInt * v.toInt := t_mul (by rw [e0]; omega) (by rw [e0]; omega)
      rw [e0] at e1
      omega
  by_cases hy : ay = by_
  · have hp : pcB q ax ay bx by_ h m e = bpt (bpt q (ax - pw ax bx * m) (ay - h)) (bx + pw ax bx * e) (ay + h) := if_pos hy
    obtain ⟨a1, a2⟩ := hm ax bx m h6
    obtain ⟨b1, b2⟩ := hm ax bx e h7
    rw [hp]
    refine ((hq.bpt1 _ _).bpt1 _ _).cong (fun x y => ?_)
    rw [t_sub (by omega) (by omega), t_sub (by omega) (by omega), t_add (by omega) (by omega), t_add (by omega) (by omega), a1, b1, or_assoc]
    unfold two
    rw [if_pos (congrArg Int64.toInt hy)]
  · have hp : pcB q ax ay bx by_ h m e = bpt (bpt q (ax - h) (ay - pw ay by_ * m)) (ax + h) (by_ + pw ay by_ * e) := if_neg hy
    obtain ⟨a1, a2⟩ := hm ay by_ m h6
    obtain ⟨b1, b2⟩ := hm ay by_ e h7
    rw [hp]
    refine ((hq.bpt1 _ _).bpt1 _ _).cong (fun x y => ?_)
    rw [t_sub (by omega) (by omega), t_sub (by omega) (by omega), t_add (by omega) (by omega), t_add (by omega) (by omega), a1, b1, or_assoc]
    unfold two
    rw [if_neg (fun q => hy (Int64.toInt.inj q))]
end BXO
