/-! find: the model -/
section MFI
variable {l : Launch} {D : gD} {s0 : State} {M : gH} {z : Nat} {ad : gA} {Q Qc : CS} {N : MS}
theorem k_mfind_no1 (h0 : g_0 l D s0) (hS : HS z ad Qc N M) (hm : MR0 Q N) (hW : WB Q) (hL : WL Q) (hX : WX Q) (hC : WSC Q) {p : Int32} {x0 y0 x1 y1 : Int64} (hp : ¬ ∃ c, c < Q.nC ∧ p = nI c) : Ct l D s0 y_Md_find (Cond.code y_Md_find b_Md_find 13 (some .int)) rkM [.ref (ad 30 0), .int p, .long x0, .long y0, .long x1, .long y1] M (fM z ad Qc (some (.int 0)) (fun N' => ∃ u, N' = (N.set_l (va_up N.l 28 u)).set_code 1)) := by
  have hm0 := hm
  refine Ct.of h0 (by decide +kernel) rfl fun X hX h => ?_
  obtain ⟨p_, l', e_, R_, s_, m_, ar_, be_, me_, c_⟩ := X
  obtain rfl : l' = l := hX
  refine ri_aload_n h d_Md_find_0 rfl ?_
  refine ri_dV0_0 (r := (gR6, gT6, 44)) h d_Md_find_1 cv_Md_180 (by first | exact hS.lcO | exact hS.lsO | exact hS.lpO | exact hS.cesO (by first | assumption | omega) | exact hS.cepO (by first | assumption | omega) | exact ⟨_, (by first | assumption | exact hS.st | exact hS.mo | exact hS.out | exact hS.sb | exact hS.ce (by first | assumption | omega) | exact hS.ceb (by first | assumption | omega) | exact hS.sh (by first | assumption | omega) | exact hS.shb (by first | assumption | omega) | exact hS.pl (by first | assumption | omega) | exact hS.plb (by first | assumption | omega) | exact hS.fl (by first | assumption | omega) | exact gup_s | (refine gup_t (by assumption) ?_; first | assumption | exact gup_s | (refine gup_t (by assumption) ?_; first | assumption | exact gup_s | (refine gup_t (by assumption) ?_; first | assumption | exact gup_s))))⟩) rfl (k_mreckon h0 hS hm hW hL hX hC) (Nat.le_of_ble_eq_true rfl) (Nat.le_of_ble_eq_true rfl) (Nat.le_of_ble_eq_true rfl) (Nat.le_of_ble_eq_true rfl) (Nat.le_of_ble_eq_true rfl) (fun M hS => ?_)
  obtain ⟨u, hS, hu⟩ := hS
  have hm := hm0.ne (NE.l 28 (by decide) u)
  refine ri_aload_n h d_Md_find_4 rfl ?_
  refine ri_aload_n h d_Md_find_5 rfl ?_
  refine ri_iload_n h d_Md_find_6 rfl ?_
  refine ri_cVv_1 (r := (gR6, gT6, 44)) h d_Md_find_7 cv_Md_121 (by first | exact hS.lcO | exact hS.lsO | exact hS.lpO | exact hS.cesO (by first | assumption | omega) | exact hS.cepO (by first | assumption | omega) | exact ⟨_, (by first | assumption | exact hS.st | exact hS.mo | exact hS.out | exact hS.sb | exact hS.ce (by first | assumption | omega) | exact hS.ceb (by first | assumption | omega) | exact hS.sh (by first | assumption | omega) | exact hS.shb (by first | assumption | omega) | exact hS.pl (by first | assumption | omega) | exact hS.plb (by first | assumption | omega) | exact hS.fl (by first | assumption | omega) | exact gup_s | (refine gup_t (by assumption) ?_; first | assumption | exact gup_s | (refine gup_t (by assumption) ?_; first | assumption | exact gup_s | (refine gup_t (by assumption) ?_; first | assumption | exact gup_s))))⟩) rfl (k_isCell0 h0 hS hm hW) (Nat.le_of_ble_eq_true rfl) (Nat.le_of_ble_eq_true rfl) (Nat.le_of_ble_eq_true rfl) (Nat.le_of_ble_eq_true rfl) (Nat.le_of_ble_eq_true rfl) ?_
  first | refine ri_ifB_ne h 17 d_Md_find_10 (by decide) (fun c_10 => ?_) (fun c_10 => ?_) | refine ri_ifN_ne h 17 d_Md_find_10 (by decide) (by omega) (fun c_10 => ?_) (fun c_10 => ?_) | refine ri_if_ne h 17 d_Md_find_10 (by decide) (fun c_10 => ?_) (fun c_10 => ?_)
  · first
    | (exfalso; first | exact absurd c_10 (by decide) | first | contradiction | omega)
    | (contradiction)
  · first
    | (exfalso; first | exact absurd c_10 (by decide) | first | contradiction | omega)
    | (refine ri_iconstN h 1 d_Md_find_13 rfl ?_
       refine ri_goto h 85 d_Md_find_14 (by decide) ?_
       refine ri_pm_code h d_Md_find_85 fl_Md_108 hS (fun M hS => ?_)
       refine ri_aload_n h d_Md_find_88 rfl ?_
       refine ri_get h d_Md_find_89 fl_Md_108 (by first | assumption | exact hS.mo | exact gup_s) (by rfl) ?_
       try dsimp only [MS.code, MS.set_code]
       first | refine ri_ifN_le h 97 d_Md_find_92 (by decide) (by omega) (fun c_92 => ?_) (fun c_92 => ?_) | refine ri_if_le h 97 d_Md_find_92 (by decide) (fun c_92 => ?_) (fun c_92 => ?_)
       · first
         | (exfalso; first | exact absurd c_92 (by decide) | first | contradiction | omega)
         | (omega)
       · first
         | (exfalso; first | exact absurd c_92 (by decide) | first | contradiction | omega)
         | (refine ri_iconstN h 0 d_Md_find_95 rfl ?_
            refine ri_ireturn h d_Md_find_96 (Nat.le_of_ble_eq_true rfl) (Nat.le_of_ble_eq_true rfl) ?_
            exact ⟨rfl, _, hS, u, rfl⟩))
theorem k_mfind_no2 (h0 : g_0 l D s0) (hS : HS z ad Qc N M) (hm : MR0 Q N) (hW : WB Q) (hL : WL Q) (hX : WX Q) (hC : WSC Q) {p : Int32} {x0 y0 x1 y1 : Int64} (hp : ∃ c, c < Q.nC ∧ p = nI c) (hn : ¬ findB x0 y0 x1 y1) : Ct l D s0 y_Md_find (Cond.code y_Md_find b_Md_find 13 (some .int)) rkM [.ref (ad 30 0), .int p, .long x0, .long y0, .long x1, .long y1] M (fM z ad Qc (some (.int 0)) (fun N' => ∃ u, N' = (N.set_l (va_up N.l 28 u)).set_code 2)) := by
  have hm0 := hm
  refine Ct.of h0 (by decide +kernel) rfl fun X hX h => ?_
  obtain ⟨p_, l', e_, R_, s_, m_, ar_, be_, me_, c_⟩ := X
  obtain rfl : l' = l := hX
  refine ri_aload_n h d_Md_find_0 rfl ?_
  refine ri_dV0_0 (r := (gR6, gT6, 44)) h d_Md_find_1 cv_Md_180 (by first | exact hS.lcO | exact hS.lsO | exact hS.lpO | exact hS.cesO (by first | assumption | omega) | exact hS.cepO (by first | assumption | omega) | exact ⟨_, (by first | assumption | exact hS.st | exact hS.mo | exact hS.out | exact hS.sb | exact hS.ce (by first | assumption | omega) | exact hS.ceb (by first | assumption | omega) | exact hS.sh (by first | assumption | omega) | exact hS.shb (by first | assumption | omega) | exact hS.pl (by first | assumption | omega) | exact hS.plb (by first | assumption | omega) | exact hS.fl (by first | assumption | omega) | exact gup_s | (refine gup_t (by assumption) ?_; first | assumption | exact gup_s | (refine gup_t (by assumption) ?_; first | assumption | exact gup_s | (refine gup_t (by assumption) ?_; first | assumption | exact gup_s))))⟩) rfl (k_mreckon h0 hS hm hW hL hX hC) (Nat.le_of_ble_eq_true rfl) (Nat.le_of_ble_eq_true rfl) (Nat.le_of_ble_eq_true rfl) (Nat.le_of_ble_eq_true rfl) (Nat.le_of_ble_eq_true rfl) (fun M hS => ?_)
  obtain ⟨u, hS, hu⟩ := hS
  have hm := hm0.ne (NE.l 28 (by decide) u)
  refine ri_aload_n h d_Md_find_4 rfl ?_
  refine ri_aload_n h d_Md_find_5 rfl ?_
  refine ri_iload_n h d_Md_find_6 rfl ?_
  refine ri_cVv_1 (r := (gR6, gT6, 44)) h d_Md_find_7 cv_Md_121 (by first | exact hS.lcO | exact hS.lsO | exact hS.lpO | exact hS.cesO (by first | assumption | omega) | exact hS.cepO (by first | assumption | omega) | exact ⟨_, (by first | assumption | exact hS.st | exact hS.mo | exact hS.out | exact hS.sb | exact hS.ce (by first | assumption | omega) | exact hS.ceb (by first | assumption | omega) | exact hS.sh (by first | assumption | omega) | exact hS.shb (by first | assumption | omega) | exact hS.pl (by first | assumption | omega) | exact hS.plb (by first | assumption | omega) | exact hS.fl (by first | assumption | omega) | exact gup_s | (refine gup_t (by assumption) ?_; first | assumption | exact gup_s | (refine gup_t (by assumption) ?_; first | assumption | exact gup_s | (refine gup_t (by assumption) ?_; first | assumption | exact gup_s))))⟩) rfl (k_isCell0 h0 hS hm hW) (Nat.le_of_ble_eq_true rfl) (Nat.le_of_ble_eq_true rfl) (Nat.le_of_ble_eq_true rfl) (Nat.le_of_ble_eq_true rfl) (Nat.le_of_ble_eq_true rfl) ?_
  first | refine ri_ifB_ne h 17 d_Md_find_10 (by decide) (fun c_10 => ?_) (fun c_10 => ?_) | refine ri_ifN_ne h 17 d_Md_find_10 (by decide) (by omega) (fun c_10 => ?_) (fun c_10 => ?_) | refine ri_if_ne h 17 d_Md_find_10 (by decide) (fun c_10 => ?_) (fun c_10 => ?_)
  · first
    | (exfalso; first | exact absurd c_10 (by decide) | first | contradiction | omega)
    | (refine ri_lload_n h d_Md_find_17 rfl ?_
       refine ri_lload h d_Md_find_18 rfl ?_
       refine ri_lcmp_gt h 63 d_Md_find_20 d_Md_find_21 (by decide) (fun c_20 => ?_) (fun c_20 => ?_)
       · first
         | (exfalso; first | exact absurd c_20 (by decide) | first | contradiction | omega)
         | (refine ri_iconstN h 2 d_Md_find_63 rfl ?_
            refine ri_goto h 85 d_Md_find_64 (by decide) ?_
            refine ri_pm_code h d_Md_find_85 fl_Md_108 hS (fun M hS => ?_)
            refine ri_aload_n h d_Md_find_88 rfl ?_
            refine ri_get h d_Md_find_89 fl_Md_108 (by first | assumption | exact hS.mo | exact gup_s) (by rfl) ?_
            try dsimp only [MS.code, MS.set_code]
            first | refine ri_ifN_le h 97 d_Md_find_92 (by decide) (by omega) (fun c_92 => ?_) (fun c_92 => ?_) | refine ri_if_le h 97 d_Md_find_92 (by decide) (fun c_92 => ?_) (fun c_92 => ?_)
            · first
              | (exfalso; first | exact absurd c_92 (by decide) | first | contradiction | omega)
              | (omega)
            · first
              | (exfalso; first | exact absurd c_92 (by decide) | first | contradiction | omega)
              | (refine ri_iconstN h 0 d_Md_find_95 rfl ?_
                 refine ri_ireturn h d_Md_find_96 (Nat.le_of_ble_eq_true rfl) (Nat.le_of_ble_eq_true rfl) ?_
                 exact ⟨rfl, _, hS, u, rfl⟩))
       · first
         | (exfalso; first | exact absurd c_20 (by decide) | first | contradiction | omega)
         | (refine ri_lload h d_Md_find_24 rfl ?_
            refine ri_lload h d_Md_find_26 rfl ?_
            refine ri_lcmp_gt h 63 d_Md_find_28 d_Md_find_29 (by decide) (fun c_28 => ?_) (fun c_28 => ?_)
            · first
              | (exfalso; first | exact absurd c_28 (by decide) | first | contradiction | omega)
              | (refine ri_iconstN h 2 d_Md_find_63 rfl ?_
                 refine ri_goto h 85 d_Md_find_64 (by decide) ?_
                 refine ri_pm_code h d_Md_find_85 fl_Md_108 hS (fun M hS => ?_)
                 refine ri_aload_n h d_Md_find_88 rfl ?_
                 refine ri_get h d_Md_find_89 fl_Md_108 (by first | assumption | exact hS.mo | exact gup_s) (by rfl) ?_
                 try dsimp only [MS.code, MS.set_code]
                 first | refine ri_ifN_le h 97 d_Md_find_92 (by decide) (by omega) (fun c_92 => ?_) (fun c_92 => ?_) | refine ri_if_le h 97 d_Md_find_92 (by decide) (fun c_92 => ?_) (fun c_92 => ?_)
                 · first
                   | (exfalso; first | exact absurd c_92 (by decide) | first | contradiction | omega)
                   | (omega)
                 · first
                   | (exfalso; first | exact absurd c_92 (by decide) | first | contradiction | omega)
                   | (refine ri_iconstN h 0 d_Md_find_95 rfl ?_
                      refine ri_ireturn h d_Md_find_96 (Nat.le_of_ble_eq_true rfl) (Nat.le_of_ble_eq_true rfl) ?_
                      exact ⟨rfl, _, hS, u, rfl⟩))
            · first
              | (exfalso; first | exact absurd c_28 (by decide) | first | contradiction | omega)
              | (refine ri_lload_n h d_Md_find_32 rfl ?_
                 refine ri_cSv_1 h d_Md_find_33 cs_Md_136 (k_far h0) (Nat.le_of_ble_eq_true rfl) (Nat.le_of_ble_eq_true rfl) (Nat.le_of_ble_eq_true rfl) (Nat.le_of_ble_eq_true rfl) (Nat.le_of_ble_eq_true rfl) ?_
                 first | refine ri_ifB_ne h 63 d_Md_find_36 (by decide) (fun c_36 => ?_) (fun c_36 => ?_) | refine ri_ifN_ne h 63 d_Md_find_36 (by decide) (by omega) (fun c_36 => ?_) (fun c_36 => ?_) | refine ri_if_ne h 63 d_Md_find_36 (by decide) (fun c_36 => ?_) (fun c_36 => ?_)
                 · first
                   | (exfalso; first | exact absurd c_36 (by decide) | first | contradiction | omega)
                   | (refine ri_iconstN h 2 d_Md_find_63 rfl ?_
                      refine ri_goto h 85 d_Md_find_64 (by decide) ?_
                      refine ri_pm_code h d_Md_find_85 fl_Md_108 hS (fun M hS => ?_)
                      refine ri_aload_n h d_Md_find_88 rfl ?_
                      refine ri_get h d_Md_find_89 fl_Md_108 (by first | assumption | exact hS.mo | exact gup_s) (by rfl) ?_
                      try dsimp only [MS.code, MS.set_code]
                      first | refine ri_ifN_le h 97 d_Md_find_92 (by decide) (by omega) (fun c_92 => ?_) (fun c_92 => ?_) | refine ri_if_le h 97 d_Md_find_92 (by decide) (fun c_92 => ?_) (fun c_92 => ?_)
                      · first
                        | (exfalso; first | exact absurd c_92 (by decide) | first | contradiction | omega)
                        | (omega)
                      · first
                        | (exfalso; first | exact absurd c_92 (by decide) | first | contradiction | omega)
                        | (refine ri_iconstN h 0 d_Md_find_95 rfl ?_
                           refine ri_ireturn h d_Md_find_96 (Nat.le_of_ble_eq_true rfl) (Nat.le_of_ble_eq_true rfl) ?_
                           exact ⟨rfl, _, hS, u, rfl⟩))
                 · first
                   | (exfalso; first | exact absurd c_36 (by decide) | first | contradiction | omega)
                   | (refine ri_lload h d_Md_find_39 rfl ?_
                      refine ri_cSv_1 h d_Md_find_41 cs_Md_136 (k_far h0) (Nat.le_of_ble_eq_true rfl) (Nat.le_of_ble_eq_true rfl) (Nat.le_of_ble_eq_true rfl) (Nat.le_of_ble_eq_true rfl) (Nat.le_of_ble_eq_true rfl) ?_
                      first | refine ri_ifB_ne h 63 d_Md_find_44 (by decide) (fun c_44 => ?_) (fun c_44 => ?_) | refine ri_ifN_ne h 63 d_Md_find_44 (by decide) (by omega) (fun c_44 => ?_) (fun c_44 => ?_) | refine ri_if_ne h 63 d_Md_find_44 (by decide) (fun c_44 => ?_) (fun c_44 => ?_)
                      · first
                        | (exfalso; first | exact absurd c_44 (by decide) | first | contradiction | omega)
                        | (refine ri_iconstN h 2 d_Md_find_63 rfl ?_
                           refine ri_goto h 85 d_Md_find_64 (by decide) ?_
                           refine ri_pm_code h d_Md_find_85 fl_Md_108 hS (fun M hS => ?_)
                           refine ri_aload_n h d_Md_find_88 rfl ?_
                           refine ri_get h d_Md_find_89 fl_Md_108 (by first | assumption | exact hS.mo | exact gup_s) (by rfl) ?_
                           try dsimp only [MS.code, MS.set_code]
                           first | refine ri_ifN_le h 97 d_Md_find_92 (by decide) (by omega) (fun c_92 => ?_) (fun c_92 => ?_) | refine ri_if_le h 97 d_Md_find_92 (by decide) (fun c_92 => ?_) (fun c_92 => ?_)
                           · first
                             | (exfalso; first | exact absurd c_92 (by decide) | first | contradiction | omega)
                             | (omega)
                           · first
                             | (exfalso; first | exact absurd c_92 (by decide) | first | contradiction | omega)
                             | (refine ri_iconstN h 0 d_Md_find_95 rfl ?_
                                refine ri_ireturn h d_Md_find_96 (Nat.le_of_ble_eq_true rfl) (Nat.le_of_ble_eq_true rfl) ?_
                                exact ⟨rfl, _, hS, u, rfl⟩))
                      · first
                        | (exfalso; first | exact absurd c_44 (by decide) | first | contradiction | omega)
                        | (refine ri_lload h d_Md_find_47 rfl ?_
                           refine ri_cSv_1 h d_Md_find_49 cs_Md_136 (k_far h0) (Nat.le_of_ble_eq_true rfl) (Nat.le_of_ble_eq_true rfl) (Nat.le_of_ble_eq_true rfl) (Nat.le_of_ble_eq_true rfl) (Nat.le_of_ble_eq_true rfl) ?_
                           first | refine ri_ifB_ne h 63 d_Md_find_52 (by decide) (fun c_52 => ?_) (fun c_52 => ?_) | refine ri_ifN_ne h 63 d_Md_find_52 (by decide) (by omega) (fun c_52 => ?_) (fun c_52 => ?_) | refine ri_if_ne h 63 d_Md_find_52 (by decide) (fun c_52 => ?_) (fun c_52 => ?_)
                           · first
                             | (exfalso; first | exact absurd c_52 (by decide) | first | contradiction | omega)
                             | (refine ri_iconstN h 2 d_Md_find_63 rfl ?_
                                refine ri_goto h 85 d_Md_find_64 (by decide) ?_
                                refine ri_pm_code h d_Md_find_85 fl_Md_108 hS (fun M hS => ?_)
                                refine ri_aload_n h d_Md_find_88 rfl ?_
                                refine ri_get h d_Md_find_89 fl_Md_108 (by first | assumption | exact hS.mo | exact gup_s) (by rfl) ?_
                                try dsimp only [MS.code, MS.set_code]
                                first | refine ri_ifN_le h 97 d_Md_find_92 (by decide) (by omega) (fun c_92 => ?_) (fun c_92 => ?_) | refine ri_if_le h 97 d_Md_find_92 (by decide) (fun c_92 => ?_) (fun c_92 => ?_)
                                · first
                                  | (exfalso; first | exact absurd c_92 (by decide) | first | contradiction | omega)
                                  | (omega)
                                · first
                                  | (exfalso; first | exact absurd c_92 (by decide) | first | contradiction | omega)
                                  | (refine ri_iconstN h 0 d_Md_find_95 rfl ?_
                                     refine ri_ireturn h d_Md_find_96 (Nat.le_of_ble_eq_true rfl) (Nat.le_of_ble_eq_true rfl) ?_
                                     exact ⟨rfl, _, hS, u, rfl⟩))
                           · first
                             | (exfalso; first | exact absurd c_52 (by decide) | first | contradiction | omega)
                             | (refine ri_lload h d_Md_find_55 rfl ?_
                                refine ri_cSv_1 h d_Md_find_57 cs_Md_136 (k_far h0) (Nat.le_of_ble_eq_true rfl) (Nat.le_of_ble_eq_true rfl) (Nat.le_of_ble_eq_true rfl) (Nat.le_of_ble_eq_true rfl) (Nat.le_of_ble_eq_true rfl) ?_
                                first | refine ri_ifB_eq h 67 d_Md_find_60 (by decide) (fun c_60 => ?_) (fun c_60 => ?_) | refine ri_ifN_eq h 67 d_Md_find_60 (by decide) (by omega) (fun c_60 => ?_) (fun c_60 => ?_) | refine ri_if_eq h 67 d_Md_find_60 (by decide) (fun c_60 => ?_) (fun c_60 => ?_)
                                · first
                                  | (exfalso; first | exact absurd c_60 (by decide) | first | contradiction | omega)
                                  | (exact absurd ⟨Classical.byContradiction c_36, Classical.byContradiction c_44, Classical.byContradiction c_52, Classical.byContradiction c_60, c_20, Int64.not_lt.mp c_28⟩ hn)
                                · first
                                  | (exfalso; first | exact absurd c_60 (by decide) | first | contradiction | omega)
                                  | (refine ri_iconstN h 2 d_Md_find_63 rfl ?_
                                     refine ri_goto h 85 d_Md_find_64 (by decide) ?_
                                     refine ri_pm_code h d_Md_find_85 fl_Md_108 hS (fun M hS => ?_)
                                     refine ri_aload_n h d_Md_find_88 rfl ?_
                                     refine ri_get h d_Md_find_89 fl_Md_108 (by first | assumption | exact hS.mo | exact gup_s) (by rfl) ?_
                                     try dsimp only [MS.code, MS.set_code]
                                     first | refine ri_ifN_le h 97 d_Md_find_92 (by decide) (by omega) (fun c_92 => ?_) (fun c_92 => ?_) | refine ri_if_le h 97 d_Md_find_92 (by decide) (fun c_92 => ?_) (fun c_92 => ?_)
                                     · first
                                       | (exfalso; first | exact absurd c_92 (by decide) | first | contradiction | omega)
                                       | (omega)
                                     · first
                                       | (exfalso; first | exact absurd c_92 (by decide) | first | contradiction | omega)
                                       | (refine ri_iconstN h 0 d_Md_find_95 rfl ?_
                                          refine ri_ireturn h d_Md_find_96 (Nat.le_of_ble_eq_true rfl) (Nat.le_of_ble_eq_true rfl) ?_
                                          exact ⟨rfl, _, hS, u, rfl⟩))))))))
  · first
    | (exfalso; first | exact absurd c_10 (by decide) | first | contradiction | omega)
    | (refine ri_iconstN h 1 d_Md_find_13 rfl ?_
       refine ri_goto h 85 d_Md_find_14 (by decide) ?_
       refine ri_pm_code h d_Md_find_85 fl_Md_108 hS (fun M hS => ?_)
       refine ri_aload_n h d_Md_find_88 rfl ?_
       refine ri_get h d_Md_find_89 fl_Md_108 (by first | assumption | exact hS.mo | exact gup_s) (by rfl) ?_
       try dsimp only [MS.code, MS.set_code]
       first | refine ri_ifN_le h 97 d_Md_find_92 (by decide) (by omega) (fun c_92 => ?_) (fun c_92 => ?_) | refine ri_if_le h 97 d_Md_find_92 (by decide) (fun c_92 => ?_) (fun c_92 => ?_)
       · first
         | (exfalso; first | exact absurd c_92 (by decide) | first | contradiction | omega)
         | (omega)
       · first
         | (exfalso; first | exact absurd c_92 (by decide) | first | contradiction | omega)
         | (refine ri_iconstN h 0 d_Md_find_95 rfl ?_
            refine ri_ireturn h d_Md_find_96 (Nat.le_of_ble_eq_true rfl) (Nat.le_of_ble_eq_true rfl) ?_
            exact ⟨rfl, _, hS, u, rfl⟩))
theorem k_mfind_no3 (h0 : g_0 l D s0) (hS : HS z ad Qc N M) (hm : MR0 Q N) (hW : WB Q) (hL : WL Q) (hX : WX Q) (hC : WSC Q) {c : Nat} (hc : c < Q.nC) {x0 y0 x1 y1 : Int64} (hf : findB x0 y0 x1 y1) (hn : ¬ SZ Q (-1) c ≤ 3000) : Ct l D s0 y_Md_find (Cond.code y_Md_find b_Md_find 13 (some .int)) rkM [.ref (ad 30 0), .int (nI c), .long x0, .long y0, .long x1, .long y1] M (fM z ad Qc (some (.int 0)) (fun N' => ∃ u, N' = (N.set_l (va_up N.l 28 u)).set_code 3)) := by
  have hm0 := hm
  have hb1 := hW.1
  have hc' : ∃ c', c' < Q.nC ∧ nI c = nI c' := ⟨c, hc, rfl⟩
  obtain ⟨f1, f2, f3, f4, f5, f6⟩ := hf
  have f6 := Int64.not_lt.mpr f6
  refine Ct.of h0 (by decide +kernel) rfl fun X hX h => ?_
  obtain ⟨p_, l', e_, R_, s_, m_, ar_, be_, me_, c_⟩ := X
  obtain rfl : l' = l := hX
  refine ri_aload_n h d_Md_find_0 rfl ?_
  refine ri_dV0_0 (r := (gR6, gT6, 44)) h d_Md_find_1 cv_Md_180 (by first | exact hS.lcO | exact hS.lsO | exact hS.lpO | exact hS.cesO (by first | assumption | omega) | exact hS.cepO (by first | assumption | omega) | exact ⟨_, (by first | assumption | exact hS.st | exact hS.mo | exact hS.out | exact hS.sb | exact hS.ce (by first | assumption | omega) | exact hS.ceb (by first | assumption | omega) | exact hS.sh (by first | assumption | omega) | exact hS.shb (by first | assumption | omega) | exact hS.pl (by first | assumption | omega) | exact hS.plb (by first | assumption | omega) | exact hS.fl (by first | assumption | omega) | exact gup_s | (refine gup_t (by assumption) ?_; first | assumption | exact gup_s | (refine gup_t (by assumption) ?_; first | assumption | exact gup_s | (refine gup_t (by assumption) ?_; first | assumption | exact gup_s))))⟩) rfl (k_mreckon h0 hS hm hW hL hX hC) (Nat.le_of_ble_eq_true rfl) (Nat.le_of_ble_eq_true rfl) (Nat.le_of_ble_eq_true rfl) (Nat.le_of_ble_eq_true rfl) (Nat.le_of_ble_eq_true rfl) (fun M hS => ?_)
  obtain ⟨u, hS, hu⟩ := hS
  have hm := hm0.ne (NE.l 28 (by decide) u)
  have h28 := hu c hc
  have hcn : ¬ nL (min (SZ Q (-1) c) 1000000) ≤ 3000 := fun q => hn (sz_gt.mp q)
  refine ri_aload_n h d_Md_find_4 rfl ?_
  refine ri_aload_n h d_Md_find_5 rfl ?_
  refine ri_iload_n h d_Md_find_6 rfl ?_
  refine ri_cVv_1 (r := (gR6, gT6, 44)) h d_Md_find_7 cv_Md_121 (by first | exact hS.lcO | exact hS.lsO | exact hS.lpO | exact hS.cesO (by first | assumption | omega) | exact hS.cepO (by first | assumption | omega) | exact ⟨_, (by first | assumption | exact hS.st | exact hS.mo | exact hS.out | exact hS.sb | exact hS.ce (by first | assumption | omega) | exact hS.ceb (by first | assumption | omega) | exact hS.sh (by first | assumption | omega) | exact hS.shb (by first | assumption | omega) | exact hS.pl (by first | assumption | omega) | exact hS.plb (by first | assumption | omega) | exact hS.fl (by first | assumption | omega) | exact gup_s | (refine gup_t (by assumption) ?_; first | assumption | exact gup_s | (refine gup_t (by assumption) ?_; first | assumption | exact gup_s | (refine gup_t (by assumption) ?_; first | assumption | exact gup_s))))⟩) rfl (k_isCell0 h0 hS hm hW) (Nat.le_of_ble_eq_true rfl) (Nat.le_of_ble_eq_true rfl) (Nat.le_of_ble_eq_true rfl) (Nat.le_of_ble_eq_true rfl) (Nat.le_of_ble_eq_true rfl) ?_
  first | refine ri_ifB_ne h 17 d_Md_find_10 (by decide) (fun c_10 => ?_) (fun c_10 => ?_) | refine ri_ifN_ne h 17 d_Md_find_10 (by decide) (by omega) (fun c_10 => ?_) (fun c_10 => ?_) | refine ri_if_ne h 17 d_Md_find_10 (by decide) (fun c_10 => ?_) (fun c_10 => ?_)
  · first
    | (exfalso; first | exact absurd c_10 (by decide) | first | contradiction | omega)
    | (refine ri_lload_n h d_Md_find_17 rfl ?_
       refine ri_lload h d_Md_find_18 rfl ?_
       refine ri_lcmp_gt h 63 d_Md_find_20 d_Md_find_21 (by decide) (fun c_20 => ?_) (fun c_20 => ?_)
       · first
         | (exfalso; first | exact absurd c_20 (by decide) | first | contradiction | omega)
         | (refine ri_iconstN h 2 d_Md_find_63 rfl ?_
            refine ri_goto h 85 d_Md_find_64 (by decide) ?_
            refine ri_pm_code h d_Md_find_85 fl_Md_108 hS (fun M hS => ?_)
            refine ri_aload_n h d_Md_find_88 rfl ?_
            refine ri_get h d_Md_find_89 fl_Md_108 (by first | assumption | exact hS.mo | exact gup_s) (by rfl) ?_
            try dsimp only [MS.code, MS.set_code]
            first | refine ri_ifN_le h 97 d_Md_find_92 (by decide) (by omega) (fun c_92 => ?_) (fun c_92 => ?_) | refine ri_if_le h 97 d_Md_find_92 (by decide) (fun c_92 => ?_) (fun c_92 => ?_)
            · first
              | (exfalso; first | exact absurd c_92 (by decide) | first | contradiction | omega)
              | (omega)
            · first
              | (exfalso; first | exact absurd c_92 (by decide) | first | contradiction | omega)
              | (refine ri_iconstN h 0 d_Md_find_95 rfl ?_
                 refine ri_ireturn h d_Md_find_96 (Nat.le_of_ble_eq_true rfl) (Nat.le_of_ble_eq_true rfl) ?_
                 exact ⟨rfl, _, hS, u, rfl⟩))
       · first
         | (exfalso; first | exact absurd c_20 (by decide) | first | contradiction | omega)
         | (refine ri_lload h d_Md_find_24 rfl ?_
            refine ri_lload h d_Md_find_26 rfl ?_
            refine ri_lcmp_gt h 63 d_Md_find_28 d_Md_find_29 (by decide) (fun c_28 => ?_) (fun c_28 => ?_)
            · first
              | (exfalso; first | exact absurd c_28 (by decide) | first | contradiction | omega)
              | (refine ri_iconstN h 2 d_Md_find_63 rfl ?_
                 refine ri_goto h 85 d_Md_find_64 (by decide) ?_
                 refine ri_pm_code h d_Md_find_85 fl_Md_108 hS (fun M hS => ?_)
                 refine ri_aload_n h d_Md_find_88 rfl ?_
                 refine ri_get h d_Md_find_89 fl_Md_108 (by first | assumption | exact hS.mo | exact gup_s) (by rfl) ?_
                 try dsimp only [MS.code, MS.set_code]
                 first | refine ri_ifN_le h 97 d_Md_find_92 (by decide) (by omega) (fun c_92 => ?_) (fun c_92 => ?_) | refine ri_if_le h 97 d_Md_find_92 (by decide) (fun c_92 => ?_) (fun c_92 => ?_)
                 · first
                   | (exfalso; first | exact absurd c_92 (by decide) | first | contradiction | omega)
                   | (omega)
                 · first
                   | (exfalso; first | exact absurd c_92 (by decide) | first | contradiction | omega)
                   | (refine ri_iconstN h 0 d_Md_find_95 rfl ?_
                      refine ri_ireturn h d_Md_find_96 (Nat.le_of_ble_eq_true rfl) (Nat.le_of_ble_eq_true rfl) ?_
                      exact ⟨rfl, _, hS, u, rfl⟩))
            · first
              | (exfalso; first | exact absurd c_28 (by decide) | first | contradiction | omega)
              | (refine ri_lload_n h d_Md_find_32 rfl ?_
                 refine ri_cSv_1 h d_Md_find_33 cs_Md_136 (k_far h0) (Nat.le_of_ble_eq_true rfl) (Nat.le_of_ble_eq_true rfl) (Nat.le_of_ble_eq_true rfl) (Nat.le_of_ble_eq_true rfl) (Nat.le_of_ble_eq_true rfl) ?_
                 first | refine ri_ifB_ne h 63 d_Md_find_36 (by decide) (fun c_36 => ?_) (fun c_36 => ?_) | refine ri_ifN_ne h 63 d_Md_find_36 (by decide) (by omega) (fun c_36 => ?_) (fun c_36 => ?_) | refine ri_if_ne h 63 d_Md_find_36 (by decide) (fun c_36 => ?_) (fun c_36 => ?_)
                 · first
                   | (exfalso; first | exact absurd c_36 (by decide) | first | contradiction | omega)
                   | (refine ri_iconstN h 2 d_Md_find_63 rfl ?_
                      refine ri_goto h 85 d_Md_find_64 (by decide) ?_
                      refine ri_pm_code h d_Md_find_85 fl_Md_108 hS (fun M hS => ?_)
                      refine ri_aload_n h d_Md_find_88 rfl ?_
                      refine ri_get h d_Md_find_89 fl_Md_108 (by first | assumption | exact hS.mo | exact gup_s) (by rfl) ?_
                      try dsimp only [MS.code, MS.set_code]
                      first | refine ri_ifN_le h 97 d_Md_find_92 (by decide) (by omega) (fun c_92 => ?_) (fun c_92 => ?_) | refine ri_if_le h 97 d_Md_find_92 (by decide) (fun c_92 => ?_) (fun c_92 => ?_)
                      · first
                        | (exfalso; first | exact absurd c_92 (by decide) | first | contradiction | omega)
                        | (omega)
                      · first
                        | (exfalso; first | exact absurd c_92 (by decide) | first | contradiction | omega)
                        | (refine ri_iconstN h 0 d_Md_find_95 rfl ?_
                           refine ri_ireturn h d_Md_find_96 (Nat.le_of_ble_eq_true rfl) (Nat.le_of_ble_eq_true rfl) ?_
                           exact ⟨rfl, _, hS, u, rfl⟩))
                 · first
                   | (exfalso; first | exact absurd c_36 (by decide) | first | contradiction | omega)
                   | (refine ri_lload h d_Md_find_39 rfl ?_
                      refine ri_cSv_1 h d_Md_find_41 cs_Md_136 (k_far h0) (Nat.le_of_ble_eq_true rfl) (Nat.le_of_ble_eq_true rfl) (Nat.le_of_ble_eq_true rfl) (Nat.le_of_ble_eq_true rfl) (Nat.le_of_ble_eq_true rfl) ?_
                      first | refine ri_ifB_ne h 63 d_Md_find_44 (by decide) (fun c_44 => ?_) (fun c_44 => ?_) | refine ri_ifN_ne h 63 d_Md_find_44 (by decide) (by omega) (fun c_44 => ?_) (fun c_44 => ?_) | refine ri_if_ne h 63 d_Md_find_44 (by decide) (fun c_44 => ?_) (fun c_44 => ?_)
                      · first
                        | (exfalso; first | exact absurd c_44 (by decide) | first | contradiction | omega)
                        | (refine ri_iconstN h 2 d_Md_find_63 rfl ?_
                           refine ri_goto h 85 d_Md_find_64 (by decide) ?_
                           refine ri_pm_code h d_Md_find_85 fl_Md_108 hS (fun M hS => ?_)
                           refine ri_aload_n h d_Md_find_88 rfl ?_
                           refine ri_get h d_Md_find_89 fl_Md_108 (by first | assumption | exact hS.mo | exact gup_s) (by rfl) ?_
                           try dsimp only [MS.code, MS.set_code]
                           first | refine ri_ifN_le h 97 d_Md_find_92 (by decide) (by omega) (fun c_92 => ?_) (fun c_92 => ?_) | refine ri_if_le h 97 d_Md_find_92 (by decide) (fun c_92 => ?_) (fun c_92 => ?_)
                           · first
                             | (exfalso; first | exact absurd c_92 (by decide) | first | contradiction | omega)
                             | (omega)
                           · first
                             | (exfalso; first | exact absurd c_92 (by decide) | first | contradiction | omega)
                             | (refine ri_iconstN h 0 d_Md_find_95 rfl ?_
                                refine ri_ireturn h d_Md_find_96 (Nat.le_of_ble_eq_true rfl) (Nat.le_of_ble_eq_true rfl) ?_
                                exact ⟨rfl, _, hS, u, rfl⟩))
                      · first
                        | (exfalso; first | exact absurd c_44 (by decide) | first | contradiction | omega)
                        | (refine ri_lload h d_Md_find_47 rfl ?_
                           refine ri_cSv_1 h d_Md_find_49 cs_Md_136 (k_far h0) (Nat.le_of_ble_eq_true rfl) (Nat.le_of_ble_eq_true rfl) (Nat.le_of_ble_eq_true rfl) (Nat.le_of_ble_eq_true rfl) (Nat.le_of_ble_eq_true rfl) ?_
                           first | refine ri_ifB_ne h 63 d_Md_find_52 (by decide) (fun c_52 => ?_) (fun c_52 => ?_) | refine ri_ifN_ne h 63 d_Md_find_52 (by decide) (by omega) (fun c_52 => ?_) (fun c_52 => ?_) | refine ri_if_ne h 63 d_Md_find_52 (by decide) (fun c_52 => ?_) (fun c_52 => ?_)
                           · first
                             | (exfalso; first | exact absurd c_52 (by decide) | first | contradiction | omega)
                             | (refine ri_iconstN h 2 d_Md_find_63 rfl ?_
                                refine ri_goto h 85 d_Md_find_64 (by decide) ?_
                                refine ri_pm_code h d_Md_find_85 fl_Md_108 hS (fun M hS => ?_)
                                refine ri_aload_n h d_Md_find_88 rfl ?_
                                refine ri_get h d_Md_find_89 fl_Md_108 (by first | assumption | exact hS.mo | exact gup_s) (by rfl) ?_
                                try dsimp only [MS.code, MS.set_code]
                                first | refine ri_ifN_le h 97 d_Md_find_92 (by decide) (by omega) (fun c_92 => ?_) (fun c_92 => ?_) | refine ri_if_le h 97 d_Md_find_92 (by decide) (fun c_92 => ?_) (fun c_92 => ?_)
                                · first
                                  | (exfalso; first | exact absurd c_92 (by decide) | first | contradiction | omega)
                                  | (omega)
                                · first
                                  | (exfalso; first | exact absurd c_92 (by decide) | first | contradiction | omega)
                                  | (refine ri_iconstN h 0 d_Md_find_95 rfl ?_
                                     refine ri_ireturn h d_Md_find_96 (Nat.le_of_ble_eq_true rfl) (Nat.le_of_ble_eq_true rfl) ?_
                                     exact ⟨rfl, _, hS, u, rfl⟩))
                           · first
                             | (exfalso; first | exact absurd c_52 (by decide) | first | contradiction | omega)
                             | (refine ri_lload h d_Md_find_55 rfl ?_
                                refine ri_cSv_1 h d_Md_find_57 cs_Md_136 (k_far h0) (Nat.le_of_ble_eq_true rfl) (Nat.le_of_ble_eq_true rfl) (Nat.le_of_ble_eq_true rfl) (Nat.le_of_ble_eq_true rfl) (Nat.le_of_ble_eq_true rfl) ?_
                                first | refine ri_ifB_eq h 67 d_Md_find_60 (by decide) (fun c_60 => ?_) (fun c_60 => ?_) | refine ri_ifN_eq h 67 d_Md_find_60 (by decide) (by omega) (fun c_60 => ?_) (fun c_60 => ?_) | refine ri_if_eq h 67 d_Md_find_60 (by decide) (fun c_60 => ?_) (fun c_60 => ?_)
                                · first
                                  | (exfalso; first | exact absurd c_60 (by decide) | first | contradiction | omega)
                                  | (refine ri_aload_n h d_Md_find_67 rfl ?_
                                     refine ri_get h d_Md_find_68 fl_Md_79 (by first | assumption | exact hS.mo | exact gup_s) (by rfl) ?_
                                     refine ri_iload_n h d_Md_find_71 rfl ?_
                                     refine ri_laldE h _ d_Md_find_72 (by first | assumption | exact hS.a28) (by first | rfl | assumption) (by first | assumption | omega) (by first | decide | omega) (by first | assumption | assumption | rfl) ?_
                                     refine ri_ldc2 h 3000 d_Md_find_73 kl_Md_183 ?_
                                     refine ri_lcmp_le h 84 d_Md_find_76 d_Md_find_77 (by decide) (fun c_76 => ?_) (fun c_76 => ?_)
                                     · first
                                       | (exfalso; first | exact absurd c_76 (by decide) | first | contradiction | omega)
                                       | (refine ri_iconstN h 0 d_Md_find_84 rfl ?_
                                          refine ri_pm_code h d_Md_find_85 fl_Md_108 hS (fun M hS => ?_)
                                          refine ri_aload_n h d_Md_find_88 rfl ?_
                                          refine ri_get h d_Md_find_89 fl_Md_108 (by first | assumption | exact hS.mo | exact gup_s) (by rfl) ?_
                                          try dsimp only [MS.code, MS.set_code]
                                          first | refine ri_ifN_le h 97 d_Md_find_92 (by decide) (by omega) (fun c_92 => ?_) (fun c_92 => ?_) | refine ri_if_le h 97 d_Md_find_92 (by decide) (fun c_92 => ?_) (fun c_92 => ?_)
                                          · first
                                            | (exfalso; first | exact absurd c_92 (by decide) | first | contradiction | omega)
                                            | (omega)
                                          · first
                                            | (exfalso; first | exact absurd c_92 (by decide) | first | contradiction | omega)
                                            | (refine ri_iconstN h 0 d_Md_find_95 rfl ?_
                                               refine ri_ireturn h d_Md_find_96 (Nat.le_of_ble_eq_true rfl) (Nat.le_of_ble_eq_true rfl) ?_
                                               exact ⟨rfl, _, hS, u, rfl⟩))
                                     · first
                                       | (exfalso; first | exact absurd c_76 (by decide) | first | contradiction | omega)
                                       | (refine ri_iconstN h 3 d_Md_find_80 rfl ?_
                                          refine ri_goto h 85 d_Md_find_81 (by decide) ?_
                                          refine ri_pm_code h d_Md_find_85 fl_Md_108 hS (fun M hS => ?_)
                                          refine ri_aload_n h d_Md_find_88 rfl ?_
                                          refine ri_get h d_Md_find_89 fl_Md_108 (by first | assumption | exact hS.mo | exact gup_s) (by rfl) ?_
                                          try dsimp only [MS.code, MS.set_code]
                                          first | refine ri_ifN_le h 97 d_Md_find_92 (by decide) (by omega) (fun c_92 => ?_) (fun c_92 => ?_) | refine ri_if_le h 97 d_Md_find_92 (by decide) (fun c_92 => ?_) (fun c_92 => ?_)
                                          · first
                                            | (exfalso; first | exact absurd c_92 (by decide) | first | contradiction | omega)
                                            | (omega)
                                          · first
                                            | (exfalso; first | exact absurd c_92 (by decide) | first | contradiction | omega)
                                            | (refine ri_iconstN h 0 d_Md_find_95 rfl ?_
                                               refine ri_ireturn h d_Md_find_96 (Nat.le_of_ble_eq_true rfl) (Nat.le_of_ble_eq_true rfl) ?_
                                               exact ⟨rfl, _, hS, u, rfl⟩)))
                                · first
                                  | (exfalso; first | exact absurd c_60 (by decide) | first | contradiction | omega)
                                  | (refine ri_iconstN h 2 d_Md_find_63 rfl ?_
                                     refine ri_goto h 85 d_Md_find_64 (by decide) ?_
                                     refine ri_pm_code h d_Md_find_85 fl_Md_108 hS (fun M hS => ?_)
                                     refine ri_aload_n h d_Md_find_88 rfl ?_
                                     refine ri_get h d_Md_find_89 fl_Md_108 (by first | assumption | exact hS.mo | exact gup_s) (by rfl) ?_
                                     try dsimp only [MS.code, MS.set_code]
                                     first | refine ri_ifN_le h 97 d_Md_find_92 (by decide) (by omega) (fun c_92 => ?_) (fun c_92 => ?_) | refine ri_if_le h 97 d_Md_find_92 (by decide) (fun c_92 => ?_) (fun c_92 => ?_)
                                     · first
                                       | (exfalso; first | exact absurd c_92 (by decide) | first | contradiction | omega)
                                       | (omega)
                                     · first
                                       | (exfalso; first | exact absurd c_92 (by decide) | first | contradiction | omega)
                                       | (refine ri_iconstN h 0 d_Md_find_95 rfl ?_
                                          refine ri_ireturn h d_Md_find_96 (Nat.le_of_ble_eq_true rfl) (Nat.le_of_ble_eq_true rfl) ?_
                                          exact ⟨rfl, _, hS, u, rfl⟩))))))))
  · first
    | (exfalso; first | exact absurd c_10 (by decide) | first | contradiction | omega)
    | (refine ri_iconstN h 1 d_Md_find_13 rfl ?_
       refine ri_goto h 85 d_Md_find_14 (by decide) ?_
       refine ri_pm_code h d_Md_find_85 fl_Md_108 hS (fun M hS => ?_)
       refine ri_aload_n h d_Md_find_88 rfl ?_
       refine ri_get h d_Md_find_89 fl_Md_108 (by first | assumption | exact hS.mo | exact gup_s) (by rfl) ?_
       try dsimp only [MS.code, MS.set_code]
       first | refine ri_ifN_le h 97 d_Md_find_92 (by decide) (by omega) (fun c_92 => ?_) (fun c_92 => ?_) | refine ri_if_le h 97 d_Md_find_92 (by decide) (fun c_92 => ?_) (fun c_92 => ?_)
       · first
         | (exfalso; first | exact absurd c_92 (by decide) | first | contradiction | omega)
         | (omega)
       · first
         | (exfalso; first | exact absurd c_92 (by decide) | first | contradiction | omega)
         | (refine ri_iconstN h 0 d_Md_find_95 rfl ?_
            refine ri_ireturn h d_Md_find_96 (Nat.le_of_ble_eq_true rfl) (Nat.le_of_ble_eq_true rfl) ?_
            exact ⟨rfl, _, hS, u, rfl⟩))
theorem k_mfind_ok (h0 : g_0 l D s0) (hS : HS z ad Qc N M) (hm : MR0 Q N) (hW : WB Q) (hL : WL Q) (hX : WX Q) (hC : WSC Q) (hP : ∀ s, s < Q.nS → WPt (Q.sh s)) {c : Nat} (hc : c < Q.nC) {x0 y0 x1 y1 : Int64} (hf : findB x0 y0 x1 y1) (hn : SZ Q (-1) c ≤ 3000) : Ct l D s0 y_Md_find (Cond.code y_Md_find b_Md_find 13 (some .int)) rkM [.ref (ad 30 0), .int (nI c), .long x0, .long y0, .long x1, .long y1] M (fM z ad Qc (some (.int (nI ((FLn Q (-1) 21 c (0, 0, 0)).filter (fnd Q x0 y0 x1 y1)).length))) (fun N' => ∃ (u : Nat → Int64) (N1 : MS) (b : BxR) (e : Int32), NZ 0 ((N.set_l (va_up N.l 28 u)).set_code 0) N1 ∧ N' = mst N1 b e)) := by
  have hm0 := hm
  have hb1 := hW.1
  have hc' : ∃ c', c' < Q.nC ∧ nI c = nI c' := ⟨c, hc, rfl⟩
  obtain ⟨f1, f2, f3, f4, f5, f6⟩ := hf
  have f6 := Int64.not_lt.mpr f6
  have hlen : (FLn Q (-1) 21 c (0, 0, 0)).length ≤ 3000 := by rw [FLn_len hL hW 21 c _ hc (rho_lt hW)]; exact hn
  refine Ct.of h0 (by decide +kernel) rfl fun X hX h => ?_
  obtain ⟨p_, l', e_, R_, s_, m_, ar_, be_, me_, c_⟩ := X
  obtain rfl : l' = l := hX
  have LP : ∀ (u : Nat → Int64) (N1 : MS), NZ 0 ((N.set_l (va_up N.l 28 u)).set_code 0) N1 → fLs Q N1 0 (FLn Q (-1) 21 c (0, 0, 0)) → MR0 Q N1 → ∀ (q k : Nat), k + q = (FLn Q (-1) 21 c (0, 0, 0)).length → ∀ (M : gH) (b : BxR) (e : Int32), HS z ad Qc (mst N1 b e) M → G (gzz D s0 (p_, l', e_, R_, s_, m_, ar_, be_, me_, c_) rkM (fM z ad Qc (some (.int (nI ((FLn Q (-1) 21 c (0, 0, 0)).filter (fnd Q x0 y0 x1 y1)).length))) (fun N' => ∃ (u : Nat → Int64) (N1 : MS) (b : BxR) (e : Int32), NZ 0 ((N.set_l (va_up N.l 28 u)).set_code 0) N1 ∧ N' = mst N1 b e)) 13) 112 [(0, .ref (ad 30 0)), (2, .long x0), (4, .long y0), (6, .long x1), (8, .long y1), (10, .int (nI (FLn Q (-1) 21 c (0, 0, 0)).length)), (11, .int (nI (((FLn Q (-1) 21 c (0, 0, 0)).take k).filter (fnd Q x0 y0 x1 y1)).length)), (12, .int (nI k))] [] M 0 0 := by
    intro u N1 hnz hfl hm1 q
    induction q with
    | zero =>
      intro k hk M b e hS
      have ht : (FLn Q (-1) 21 c (0, 0, 0)).take k = FLn Q (-1) 21 c (0, 0, 0) := List.take_of_length_le (by omega)
      rw [ht]
      refine ri_iload h d_Md_find_112 rfl ?_
      refine ri_iload h d_Md_find_114 rfl ?_
      first | refine ri_icmpN_ge h 186 d_Md_find_116 (by decide) (by omega) (by omega) (fun c_116 => ?_) (fun c_116 => ?_) | refine ri_icmp_ge h 186 d_Md_find_116 (by decide) (fun c_116 => ?_) (fun c_116 => ?_)
      · refine ri_iload h d_Md_find_186 rfl ?_
        refine ri_ireturn h d_Md_find_188 (Nat.le_of_ble_eq_true rfl) (Nat.le_of_ble_eq_true rfl) ?_
        exact ⟨rfl, _, hS, u, N1, b, e, hnz, rfl⟩
      · omega
    | succ q ih =>
      intro k hk M b e hS
      have hkl : k < (FLn Q (-1) 21 c (0, 0, 0)).length := by omega
      have hmem : (FLn Q (-1) 21 c (0, 0, 0))[k] ∈ FLn Q (-1) 21 c (0, 0, 0) := List.getElem_mem hkl
      have ht := take_snoc (FLn Q (-1) 21 c (0, 0, 0)) k hkl
      have hfk := hfl k hkl
      have hs := (FLn_ok hL hC 21 c (0, 0, 0) hc (by decide) _ hmem).1
      obtain ⟨ht8, hBX, hBY⟩ := FL_big hL hc hmem
      have hon := FLn_on hL 21 c (0, 0, 0) _ hmem
      generalize hw : (FLn Q (-1) 21 c (0, 0, 0))[k] = w at *
      have hib := itb_h hX hs ht8 hBX hBY hon
      have hk3 : k < 3000 := by omega
      refine ri_iload h d_Md_find_112 rfl ?_
      refine ri_iload h d_Md_find_114 rfl ?_
      first | refine ri_icmpN_ge h 186 d_Md_find_116 (by decide) (by omega) (by omega) (fun c_116 => ?_) (fun c_116 => ?_) | refine ri_icmp_ge h 186 d_Md_find_116 (by decide) (fun c_116 => ?_) (fun c_116 => ?_)
      · omega
      · refine ri_aload_n h d_Md_find_119 rfl ?_
        refine ri_iconstN h 0 d_Md_find_120 rfl ?_
        refine ri_pm_any h d_Md_find_121 fl_Md_192 hS (by first | exact Or.inl rfl | exact Or.inr rfl | assumption) (fun M hS => ?_)
        refine ri_aload_n h d_Md_find_124 rfl ?_
        refine ri_iconstN h 0 d_Md_find_125 rfl ?_
        refine ri_iload h d_Md_find_126 rfl ?_
        refine ri_dV0_2 (r := (gR6, gT6, 44)) h d_Md_find_128 cv_Md_217 (by first | exact hS.lcO | exact hS.lsO | exact hS.lpO | exact hS.cesO (by first | assumption | omega) | exact hS.cepO (by first | assumption | omega) | exact ⟨_, (by first | assumption | exact hS.st | exact hS.mo | exact hS.out | exact hS.sb | exact hS.ce (by first | assumption | omega) | exact hS.ceb (by first | assumption | omega) | exact hS.sh (by first | assumption | omega) | exact hS.shb (by first | assumption | omega) | exact hS.pl (by first | assumption | omega) | exact hS.plb (by first | assumption | omega) | exact hS.fl (by first | assumption | omega) | exact gup_s | (refine gup_t (by assumption) ?_; first | assumption | exact gup_s | (refine gup_t (by assumption) ?_; first | assumption | exact gup_s | (refine gup_t (by assumption) ?_; first | assumption | exact gup_s))))⟩) rfl (k_mboxOf (N := mst N1 b 0) (set := 0) (i := k) (t := w) (P := fun _ _ => False) h0 hS hm1 hW hX (by decide) hk3 hfk hs ht8 (hP _ hs) hBX hBY (Or.inl rfl) (Or.inl ⟨by show (1 : Int32) - 0 = 1; decide, fun _ _ h => h⟩)) (Nat.le_of_ble_eq_true rfl) (Nat.le_of_ble_eq_true rfl) (Nat.le_of_ble_eq_true rfl) (Nat.le_of_ble_eq_true rfl) (Nat.le_of_ble_eq_true rfl) (fun M hS => ?_)
        obtain ⟨b', e', hS, he', hb'⟩ := hS
        have hb' : HB (mbx (mst N1 b' e')) (IPt Q w) := hb'.cong (fun x y => ⟨fun q => q.elim False.elim id, Or.inr⟩)
        have hin : (itb Q w).n = 0 := rfl
        have hmn : (mbx (mst N1 b' e')).n = 0 := (hb'.uniq hib).1.trans hin
        have heq := (hb'.uniq hib).2 hmn
        have q1 : (mbx (mst N1 b' e')).x0 = (itb Q w).x0 := congrArg BxR.x0 heq
        have q1 : b'.x0 = (itb Q w).x0 := q1
        have q2 : (mbx (mst N1 b' e')).y0 = (itb Q w).y0 := congrArg BxR.y0 heq
        have q2 : b'.y0 = (itb Q w).y0 := q2
        have q3 : (mbx (mst N1 b' e')).x1 = (itb Q w).x1 := congrArg BxR.x1 heq
        have q3 : b'.x1 = (itb Q w).x1 := q3
        have q4 : (mbx (mst N1 b' e')).y1 = (itb Q w).y1 := congrArg BxR.y1 heq
        have q4 : b'.y1 = (itb Q w).y1 := q4
        have hF : fnd Q x0 y0 x1 y1 w = true ↔ b'.x0 ≤ x1 ∧ x0 ≤ b'.x1 ∧ b'.y0 ≤ y1 ∧ y0 ≤ b'.y1 := by
          unfold fnd btch
          rw [decide_eq_true_iff, q1, q2, q3, q4]
          constructor
          · intro hq
            split at hq
            · assumption
            · exact absurd hq (by decide)
          · intro hq
            rw [if_pos hq]
        clear hb' heq q1 q2 q3 q4 hmn hib
        have J177 : ∀ d : Nat, (d = 1 ∧ fnd Q x0 y0 x1 y1 w = true) ∨ (d = 0 ∧ ¬ fnd Q x0 y0 x1 y1 w = true) → G (gzz D s0 (p_, l', e_, R_, s_, m_, ar_, be_, me_, c_) rkM (fM z ad Qc (some (.int (nI ((FLn Q (-1) 21 c (0, 0, 0)).filter (fnd Q x0 y0 x1 y1)).length))) (fun N' => ∃ (u : Nat → Int64) (N1 : MS) (b : BxR) (e : Int32), NZ 0 ((N.set_l (va_up N.l 28 u)).set_code 0) N1 ∧ N' = mst N1 b e)) 13) 177 [(0, .ref (ad 30 0)), (2, .long x0), (4, .long y0), (6, .long x1), (8, .long y1), (10, .int (nI (FLn Q (-1) 21 c (0, 0, 0)).length)), (12, .int (nI k))] [.int (nI d), .int (nI (((FLn Q (-1) 21 c (0, 0, 0)).take k).filter (fnd Q x0 y0 x1 y1)).length)] M 0 0 := by
          intro d hd
          first | refine ri_iaddN h d_Md_find_177 ?_ | refine ri_iadd h d_Md_find_177 ?_
          refine ri_istore h d_Md_find_178 (Nat.le_of_ble_eq_true rfl) ?_
          first | refine ri_iincN h d_Md_find_180 rfl (Nat.le_of_ble_eq_true rfl) ?_ | refine ri_iinc h _ d_Md_find_180 rfl rfl (Nat.le_of_ble_eq_true rfl) ?_
          refine ri_goto h 112 d_Md_find_183 (by decide) ?_
          exact ri_ls [(0, .ref (ad 30 0)), (2, .long x0), (4, .long y0), (6, .long x1), (8, .long y1), (10, .int (nI (FLn Q (-1) 21 c (0, 0, 0)).length)), (11, .int (nI (((FLn Q (-1) 21 c (0, 0, 0)).take (k + 1)).filter (fnd Q x0 y0 x1 y1)).length)), (12, .int (nI (k + 1)))] ⟨rfl, rfl, rfl, rfl, rfl, rfl, by (rcases hd with ⟨rfl, hd⟩ | ⟨rfl, hd⟩); (rw [ht, List.filter_append, List.filter_cons_of_pos hd, List.length_append]; rfl); (rw [ht, List.filter_append, List.filter_cons_of_neg hd, List.filter_nil, List.append_nil]; rfl), rfl, trivial⟩ (ih (k + 1) (by omega) M b' e' hS)
        refine ri_iload h d_Md_find_131 rfl ?_
        refine ri_aload_n h d_Md_find_133 rfl ?_
        refine ri_get h d_Md_find_134 fl_Md_196 (by first | assumption | exact hS.mo | exact gup_s) (by rfl) ?_
        refine ri_lload h d_Md_find_137 rfl ?_
        refine ri_lcmp_gt h 176 d_Md_find_139 d_Md_find_140 (by decide) (fun c_139 => ?_) (fun c_139 => ?_)
        · refine ri_iconstN h 0 d_Md_find_176 rfl ?_
          exact ri_ls [(0, .ref (ad 30 0)), (2, .long x0), (4, .long y0), (6, .long x1), (8, .long y1), (10, .int (nI (FLn Q (-1) 21 c (0, 0, 0)).length)), (12, .int (nI k))] ⟨rfl, rfl, rfl, rfl, rfl, rfl, rfl, trivial⟩ (by first | exact J177 1 (Or.inl ⟨rfl, hF.mpr ⟨Int64.not_lt.mp c_139, Int64.not_lt.mp c_148, Int64.not_lt.mp c_158, Int64.not_lt.mp c_168⟩⟩) | exact J177 0 (Or.inr ⟨rfl, fun q => absurd c_168 (Int64.not_lt.mpr (hF.mp q).2.2.2)⟩) | exact J177 0 (Or.inr ⟨rfl, fun q => absurd c_158 (Int64.not_lt.mpr (hF.mp q).2.2.1)⟩) | exact J177 0 (Or.inr ⟨rfl, fun q => absurd c_148 (Int64.not_lt.mpr (hF.mp q).2.1)⟩) | exact J177 0 (Or.inr ⟨rfl, fun q => absurd c_139 (Int64.not_lt.mpr (hF.mp q).1)⟩))
        · refine ri_aload_n h d_Md_find_143 rfl ?_
          refine ri_get h d_Md_find_144 fl_Md_202 (by first | assumption | exact hS.mo | exact gup_s) (by rfl) ?_
          refine ri_lload_n h d_Md_find_147 rfl ?_
          refine ri_lcmp_lt h 176 d_Md_find_148 d_Md_find_149 (by decide) (fun c_148 => ?_) (fun c_148 => ?_)
          · refine ri_iconstN h 0 d_Md_find_176 rfl ?_
            exact ri_ls [(0, .ref (ad 30 0)), (2, .long x0), (4, .long y0), (6, .long x1), (8, .long y1), (10, .int (nI (FLn Q (-1) 21 c (0, 0, 0)).length)), (12, .int (nI k))] ⟨rfl, rfl, rfl, rfl, rfl, rfl, rfl, trivial⟩ (by first | exact J177 1 (Or.inl ⟨rfl, hF.mpr ⟨Int64.not_lt.mp c_139, Int64.not_lt.mp c_148, Int64.not_lt.mp c_158, Int64.not_lt.mp c_168⟩⟩) | exact J177 0 (Or.inr ⟨rfl, fun q => absurd c_168 (Int64.not_lt.mpr (hF.mp q).2.2.2)⟩) | exact J177 0 (Or.inr ⟨rfl, fun q => absurd c_158 (Int64.not_lt.mpr (hF.mp q).2.2.1)⟩) | exact J177 0 (Or.inr ⟨rfl, fun q => absurd c_148 (Int64.not_lt.mpr (hF.mp q).2.1)⟩) | exact J177 0 (Or.inr ⟨rfl, fun q => absurd c_139 (Int64.not_lt.mpr (hF.mp q).1)⟩))
          · refine ri_aload_n h d_Md_find_152 rfl ?_
            refine ri_get h d_Md_find_153 fl_Md_199 (by first | assumption | exact hS.mo | exact gup_s) (by rfl) ?_
            refine ri_lload h d_Md_find_156 rfl ?_
            refine ri_lcmp_gt h 176 d_Md_find_158 d_Md_find_159 (by decide) (fun c_158 => ?_) (fun c_158 => ?_)
            · refine ri_iconstN h 0 d_Md_find_176 rfl ?_
              exact ri_ls [(0, .ref (ad 30 0)), (2, .long x0), (4, .long y0), (6, .long x1), (8, .long y1), (10, .int (nI (FLn Q (-1) 21 c (0, 0, 0)).length)), (12, .int (nI k))] ⟨rfl, rfl, rfl, rfl, rfl, rfl, rfl, trivial⟩ (by first | exact J177 1 (Or.inl ⟨rfl, hF.mpr ⟨Int64.not_lt.mp c_139, Int64.not_lt.mp c_148, Int64.not_lt.mp c_158, Int64.not_lt.mp c_168⟩⟩) | exact J177 0 (Or.inr ⟨rfl, fun q => absurd c_168 (Int64.not_lt.mpr (hF.mp q).2.2.2)⟩) | exact J177 0 (Or.inr ⟨rfl, fun q => absurd c_158 (Int64.not_lt.mpr (hF.mp q).2.2.1)⟩) | exact J177 0 (Or.inr ⟨rfl, fun q => absurd c_148 (Int64.not_lt.mpr (hF.mp q).2.1)⟩) | exact J177 0 (Or.inr ⟨rfl, fun q => absurd c_139 (Int64.not_lt.mpr (hF.mp q).1)⟩))
            · refine ri_aload_n h d_Md_find_162 rfl ?_
              refine ri_get h d_Md_find_163 fl_Md_205 (by first | assumption | exact hS.mo | exact gup_s) (by rfl) ?_
              refine ri_lload h d_Md_find_166 rfl ?_
              refine ri_lcmp_lt h 176 d_Md_find_168 d_Md_find_169 (by decide) (fun c_168 => ?_) (fun c_168 => ?_)
              · refine ri_iconstN h 0 d_Md_find_176 rfl ?_
                exact ri_ls [(0, .ref (ad 30 0)), (2, .long x0), (4, .long y0), (6, .long x1), (8, .long y1), (10, .int (nI (FLn Q (-1) 21 c (0, 0, 0)).length)), (12, .int (nI k))] ⟨rfl, rfl, rfl, rfl, rfl, rfl, rfl, trivial⟩ (by first | exact J177 1 (Or.inl ⟨rfl, hF.mpr ⟨Int64.not_lt.mp c_139, Int64.not_lt.mp c_148, Int64.not_lt.mp c_158, Int64.not_lt.mp c_168⟩⟩) | exact J177 0 (Or.inr ⟨rfl, fun q => absurd c_168 (Int64.not_lt.mpr (hF.mp q).2.2.2)⟩) | exact J177 0 (Or.inr ⟨rfl, fun q => absurd c_158 (Int64.not_lt.mpr (hF.mp q).2.2.1)⟩) | exact J177 0 (Or.inr ⟨rfl, fun q => absurd c_148 (Int64.not_lt.mpr (hF.mp q).2.1)⟩) | exact J177 0 (Or.inr ⟨rfl, fun q => absurd c_139 (Int64.not_lt.mpr (hF.mp q).1)⟩))
              · refine ri_iconstN h 1 d_Md_find_172 rfl ?_
                refine ri_goto h 177 d_Md_find_173 (by decide) ?_
                exact ri_ls [(0, .ref (ad 30 0)), (2, .long x0), (4, .long y0), (6, .long x1), (8, .long y1), (10, .int (nI (FLn Q (-1) 21 c (0, 0, 0)).length)), (12, .int (nI k))] ⟨rfl, rfl, rfl, rfl, rfl, rfl, rfl, trivial⟩ (by first | exact J177 1 (Or.inl ⟨rfl, hF.mpr ⟨Int64.not_lt.mp c_139, Int64.not_lt.mp c_148, Int64.not_lt.mp c_158, Int64.not_lt.mp c_168⟩⟩) | exact J177 0 (Or.inr ⟨rfl, fun q => absurd c_168 (Int64.not_lt.mpr (hF.mp q).2.2.2)⟩) | exact J177 0 (Or.inr ⟨rfl, fun q => absurd c_158 (Int64.not_lt.mpr (hF.mp q).2.2.1)⟩) | exact J177 0 (Or.inr ⟨rfl, fun q => absurd c_148 (Int64.not_lt.mpr (hF.mp q).2.1)⟩) | exact J177 0 (Or.inr ⟨rfl, fun q => absurd c_139 (Int64.not_lt.mpr (hF.mp q).1)⟩))
  refine ri_aload_n h d_Md_find_0 rfl ?_
  refine ri_dV0_0 (r := (gR6, gT6, 44)) h d_Md_find_1 cv_Md_180 (by first | exact hS.lcO | exact hS.lsO | exact hS.lpO | exact hS.cesO (by first | assumption | omega) | exact hS.cepO (by first | assumption | omega) | exact ⟨_, (by first | assumption | exact hS.st | exact hS.mo | exact hS.out | exact hS.sb | exact hS.ce (by first | assumption | omega) | exact hS.ceb (by first | assumption | omega) | exact hS.sh (by first | assumption | omega) | exact hS.shb (by first | assumption | omega) | exact hS.pl (by first | assumption | omega) | exact hS.plb (by first | assumption | omega) | exact hS.fl (by first | assumption | omega) | exact gup_s | (refine gup_t (by assumption) ?_; first | assumption | exact gup_s | (refine gup_t (by assumption) ?_; first | assumption | exact gup_s | (refine gup_t (by assumption) ?_; first | assumption | exact gup_s))))⟩) rfl (k_mreckon h0 hS hm hW hL hX hC) (Nat.le_of_ble_eq_true rfl) (Nat.le_of_ble_eq_true rfl) (Nat.le_of_ble_eq_true rfl) (Nat.le_of_ble_eq_true rfl) (Nat.le_of_ble_eq_true rfl) (fun M hS => ?_)
  obtain ⟨u, hS, hu⟩ := hS
  have hm := hm0.ne (NE.l 28 (by decide) u)
  have h28 := hu c hc
  have hcn : nL (min (SZ Q (-1) c) 1000000) ≤ 3000 := sz_gt.mpr hn
  refine ri_aload_n h d_Md_find_4 rfl ?_
  refine ri_aload_n h d_Md_find_5 rfl ?_
  refine ri_iload_n h d_Md_find_6 rfl ?_
  refine ri_cVv_1 (r := (gR6, gT6, 44)) h d_Md_find_7 cv_Md_121 (by first | exact hS.lcO | exact hS.lsO | exact hS.lpO | exact hS.cesO (by first | assumption | omega) | exact hS.cepO (by first | assumption | omega) | exact ⟨_, (by first | assumption | exact hS.st | exact hS.mo | exact hS.out | exact hS.sb | exact hS.ce (by first | assumption | omega) | exact hS.ceb (by first | assumption | omega) | exact hS.sh (by first | assumption | omega) | exact hS.shb (by first | assumption | omega) | exact hS.pl (by first | assumption | omega) | exact hS.plb (by first | assumption | omega) | exact hS.fl (by first | assumption | omega) | exact gup_s | (refine gup_t (by assumption) ?_; first | assumption | exact gup_s | (refine gup_t (by assumption) ?_; first | assumption | exact gup_s | (refine gup_t (by assumption) ?_; first | assumption | exact gup_s))))⟩) rfl (k_isCell0 h0 hS hm hW) (Nat.le_of_ble_eq_true rfl) (Nat.le_of_ble_eq_true rfl) (Nat.le_of_ble_eq_true rfl) (Nat.le_of_ble_eq_true rfl) (Nat.le_of_ble_eq_true rfl) ?_
  first | refine ri_ifB_ne h 17 d_Md_find_10 (by decide) (fun c_10 => ?_) (fun c_10 => ?_) | refine ri_ifN_ne h 17 d_Md_find_10 (by decide) (by omega) (fun c_10 => ?_) (fun c_10 => ?_) | refine ri_if_ne h 17 d_Md_find_10 (by decide) (fun c_10 => ?_) (fun c_10 => ?_)
  · first
    | (exfalso; first | exact absurd c_10 (by decide) | first | contradiction | omega)
    | (refine ri_lload_n h d_Md_find_17 rfl ?_
       refine ri_lload h d_Md_find_18 rfl ?_
       refine ri_lcmp_gt h 63 d_Md_find_20 d_Md_find_21 (by decide) (fun c_20 => ?_) (fun c_20 => ?_)
       · first
         | (exfalso; first | exact absurd c_20 (by decide) | first | contradiction | omega)
         | (refine ri_iconstN h 2 d_Md_find_63 rfl ?_
            refine ri_goto h 85 d_Md_find_64 (by decide) ?_
            refine ri_pm_code h d_Md_find_85 fl_Md_108 hS (fun M hS => ?_)
            refine ri_aload_n h d_Md_find_88 rfl ?_
            refine ri_get h d_Md_find_89 fl_Md_108 (by first | assumption | exact hS.mo | exact gup_s) (by rfl) ?_
            try dsimp only [MS.code, MS.set_code]
            first | refine ri_ifN_le h 97 d_Md_find_92 (by decide) (by omega) (fun c_92 => ?_) (fun c_92 => ?_) | refine ri_if_le h 97 d_Md_find_92 (by decide) (fun c_92 => ?_) (fun c_92 => ?_)
            · first
              | (exfalso; first | exact absurd c_92 (by decide) | first | contradiction | omega)
              | (refine ri_aload_n h d_Md_find_97 rfl ?_
                 refine ri_iconstN h 0 d_Md_find_98 rfl ?_
                 refine ri_iload_n h d_Md_find_99 rfl ?_
                 refine ri_iconst h (-1) d_Md_find_100 rfl ?_
                 refine ri_dVv_3 (r := (gR6, gT6, 44)) h d_Md_find_101 cv_Md_185 (by first | exact hS.lcO | exact hS.lsO | exact hS.lpO | exact hS.cesO (by first | assumption | omega) | exact hS.cepO (by first | assumption | omega) | exact ⟨_, (by first | assumption | exact hS.st | exact hS.mo | exact hS.out | exact hS.sb | exact hS.ce (by first | assumption | omega) | exact hS.ceb (by first | assumption | omega) | exact hS.sh (by first | assumption | omega) | exact hS.shb (by first | assumption | omega) | exact hS.pl (by first | assumption | omega) | exact hS.plb (by first | assumption | omega) | exact hS.fl (by first | assumption | omega) | exact gup_s | (refine gup_t (by assumption) ?_; first | assumption | exact gup_s | (refine gup_t (by assumption) ?_; first | assumption | exact gup_s | (refine gup_t (by assumption) ?_; first | assumption | exact gup_s))))⟩) rfl (k_mlay (N := (N.set_l (va_up N.l 28 u)).set_code 0) (lay := -1) h0 hS hm hW hL hX hC (show 0 < 3 by decide) hc hu hlen) (Nat.le_of_ble_eq_true rfl) (Nat.le_of_ble_eq_true rfl) (Nat.le_of_ble_eq_true rfl) (Nat.le_of_ble_eq_true rfl) (Nat.le_of_ble_eq_true rfl) (fun M hS => ?_)
                 obtain ⟨N1, hS, hnz, hfl⟩ := hS
                 have hm1 : MR0 Q N1 := MR0.ne (N := (N.set_l (va_up N.l 28 u)).set_code 0) hm hnz.1
                 refine ri_istore h d_Md_find_104 (Nat.le_of_ble_eq_true rfl) ?_
                 refine ri_iconstN h 0 d_Md_find_106 rfl ?_
                 refine ri_istore h d_Md_find_107 (Nat.le_of_ble_eq_true rfl) ?_
                 refine ri_iconstN h 0 d_Md_find_109 rfl ?_
                 refine ri_istore h d_Md_find_110 (Nat.le_of_ble_eq_true rfl) ?_
                 exact ri_ls [(0, .ref (ad 30 0)), (2, .long x0), (4, .long y0), (6, .long x1), (8, .long y1), (10, .int (nI (FLn Q (-1) 21 c (0, 0, 0)).length)), (11, .int (nI (((FLn Q (-1) 21 c (0, 0, 0)).take 0).filter (fnd Q x0 y0 x1 y1)).length)), (12, .int (nI 0))] ⟨rfl, rfl, rfl, rfl, rfl, rfl, rfl, rfl, trivial⟩ (LP u N1 hnz hfl hm1 (FLn Q (-1) 21 c (0, 0, 0)).length 0 (by omega) M (mbx N1) N1.any hS))
            · first
              | (exfalso; first | exact absurd c_92 (by decide) | first | contradiction | omega)
              | (refine ri_iconstN h 0 d_Md_find_95 rfl ?_
                 refine ri_ireturn h d_Md_find_96 (Nat.le_of_ble_eq_true rfl) (Nat.le_of_ble_eq_true rfl) ?_
                 exact ⟨rfl, rfl⟩))
       · first
         | (exfalso; first | exact absurd c_20 (by decide) | first | contradiction | omega)
         | (refine ri_lload h d_Md_find_24 rfl ?_
            refine ri_lload h d_Md_find_26 rfl ?_
            refine ri_lcmp_gt h 63 d_Md_find_28 d_Md_find_29 (by decide) (fun c_28 => ?_) (fun c_28 => ?_)
            · first
              | (exfalso; first | exact absurd c_28 (by decide) | first | contradiction | omega)
              | (refine ri_iconstN h 2 d_Md_find_63 rfl ?_
                 refine ri_goto h 85 d_Md_find_64 (by decide) ?_
                 refine ri_pm_code h d_Md_find_85 fl_Md_108 hS (fun M hS => ?_)
                 refine ri_aload_n h d_Md_find_88 rfl ?_
                 refine ri_get h d_Md_find_89 fl_Md_108 (by first | assumption | exact hS.mo | exact gup_s) (by rfl) ?_
                 try dsimp only [MS.code, MS.set_code]
                 first | refine ri_ifN_le h 97 d_Md_find_92 (by decide) (by omega) (fun c_92 => ?_) (fun c_92 => ?_) | refine ri_if_le h 97 d_Md_find_92 (by decide) (fun c_92 => ?_) (fun c_92 => ?_)
                 · first
                   | (exfalso; first | exact absurd c_92 (by decide) | first | contradiction | omega)
                   | (refine ri_aload_n h d_Md_find_97 rfl ?_
                      refine ri_iconstN h 0 d_Md_find_98 rfl ?_
                      refine ri_iload_n h d_Md_find_99 rfl ?_
                      refine ri_iconst h (-1) d_Md_find_100 rfl ?_
                      refine ri_dVv_3 (r := (gR6, gT6, 44)) h d_Md_find_101 cv_Md_185 (by first | exact hS.lcO | exact hS.lsO | exact hS.lpO | exact hS.cesO (by first | assumption | omega) | exact hS.cepO (by first | assumption | omega) | exact ⟨_, (by first | assumption | exact hS.st | exact hS.mo | exact hS.out | exact hS.sb | exact hS.ce (by first | assumption | omega) | exact hS.ceb (by first | assumption | omega) | exact hS.sh (by first | assumption | omega) | exact hS.shb (by first | assumption | omega) | exact hS.pl (by first | assumption | omega) | exact hS.plb (by first | assumption | omega) | exact hS.fl (by first | assumption | omega) | exact gup_s | (refine gup_t (by assumption) ?_; first | assumption | exact gup_s | (refine gup_t (by assumption) ?_; first | assumption | exact gup_s | (refine gup_t (by assumption) ?_; first | assumption | exact gup_s))))⟩) rfl (k_mlay (N := (N.set_l (va_up N.l 28 u)).set_code 0) (lay := -1) h0 hS hm hW hL hX hC (show 0 < 3 by decide) hc hu hlen) (Nat.le_of_ble_eq_true rfl) (Nat.le_of_ble_eq_true rfl) (Nat.le_of_ble_eq_true rfl) (Nat.le_of_ble_eq_true rfl) (Nat.le_of_ble_eq_true rfl) (fun M hS => ?_)
                      obtain ⟨N1, hS, hnz, hfl⟩ := hS
                      have hm1 : MR0 Q N1 := MR0.ne (N := (N.set_l (va_up N.l 28 u)).set_code 0) hm hnz.1
                      refine ri_istore h d_Md_find_104 (Nat.le_of_ble_eq_true rfl) ?_
                      refine ri_iconstN h 0 d_Md_find_106 rfl ?_
                      refine ri_istore h d_Md_find_107 (Nat.le_of_ble_eq_true rfl) ?_
                      refine ri_iconstN h 0 d_Md_find_109 rfl ?_
                      refine ri_istore h d_Md_find_110 (Nat.le_of_ble_eq_true rfl) ?_
                      exact ri_ls [(0, .ref (ad 30 0)), (2, .long x0), (4, .long y0), (6, .long x1), (8, .long y1), (10, .int (nI (FLn Q (-1) 21 c (0, 0, 0)).length)), (11, .int (nI (((FLn Q (-1) 21 c (0, 0, 0)).take 0).filter (fnd Q x0 y0 x1 y1)).length)), (12, .int (nI 0))] ⟨rfl, rfl, rfl, rfl, rfl, rfl, rfl, rfl, trivial⟩ (LP u N1 hnz hfl hm1 (FLn Q (-1) 21 c (0, 0, 0)).length 0 (by omega) M (mbx N1) N1.any hS))
                 · first
                   | (exfalso; first | exact absurd c_92 (by decide) | first | contradiction | omega)
                   | (refine ri_iconstN h 0 d_Md_find_95 rfl ?_
                      refine ri_ireturn h d_Md_find_96 (Nat.le_of_ble_eq_true rfl) (Nat.le_of_ble_eq_true rfl) ?_
                      exact ⟨rfl, rfl⟩))
            · first
              | (exfalso; first | exact absurd c_28 (by decide) | first | contradiction | omega)
              | (refine ri_lload_n h d_Md_find_32 rfl ?_
                 refine ri_cSv_1 h d_Md_find_33 cs_Md_136 (k_far h0) (Nat.le_of_ble_eq_true rfl) (Nat.le_of_ble_eq_true rfl) (Nat.le_of_ble_eq_true rfl) (Nat.le_of_ble_eq_true rfl) (Nat.le_of_ble_eq_true rfl) ?_
                 first | refine ri_ifB_ne h 63 d_Md_find_36 (by decide) (fun c_36 => ?_) (fun c_36 => ?_) | refine ri_ifN_ne h 63 d_Md_find_36 (by decide) (by omega) (fun c_36 => ?_) (fun c_36 => ?_) | refine ri_if_ne h 63 d_Md_find_36 (by decide) (fun c_36 => ?_) (fun c_36 => ?_)
                 · first
                   | (exfalso; first | exact absurd c_36 (by decide) | first | contradiction | omega)
                   | (refine ri_iconstN h 2 d_Md_find_63 rfl ?_
                      refine ri_goto h 85 d_Md_find_64 (by decide) ?_
                      refine ri_pm_code h d_Md_find_85 fl_Md_108 hS (fun M hS => ?_)
                      refine ri_aload_n h d_Md_find_88 rfl ?_
                      refine ri_get h d_Md_find_89 fl_Md_108 (by first | assumption | exact hS.mo | exact gup_s) (by rfl) ?_
                      try dsimp only [MS.code, MS.set_code]
                      first | refine ri_ifN_le h 97 d_Md_find_92 (by decide) (by omega) (fun c_92 => ?_) (fun c_92 => ?_) | refine ri_if_le h 97 d_Md_find_92 (by decide) (fun c_92 => ?_) (fun c_92 => ?_)
                      · first
                        | (exfalso; first | exact absurd c_92 (by decide) | first | contradiction | omega)
                        | (refine ri_aload_n h d_Md_find_97 rfl ?_
                           refine ri_iconstN h 0 d_Md_find_98 rfl ?_
                           refine ri_iload_n h d_Md_find_99 rfl ?_
                           refine ri_iconst h (-1) d_Md_find_100 rfl ?_
                           refine ri_dVv_3 (r := (gR6, gT6, 44)) h d_Md_find_101 cv_Md_185 (by first | exact hS.lcO | exact hS.lsO | exact hS.lpO | exact hS.cesO (by first | assumption | omega) | exact hS.cepO (by first | assumption | omega) | exact ⟨_, (by first | assumption | exact hS.st | exact hS.mo | exact hS.out | exact hS.sb | exact hS.ce (by first | assumption | omega) | exact hS.ceb (by first | assumption | omega) | exact hS.sh (by first | assumption | omega) | exact hS.shb (by first | assumption | omega) | exact hS.pl (by first | assumption | omega) | exact hS.plb (by first | assumption | omega) | exact hS.fl (by first | assumption | omega) | exact gup_s | (refine gup_t (by assumption) ?_; first | assumption | exact gup_s | (refine gup_t (by assumption) ?_; first | assumption | exact gup_s | (refine gup_t (by assumption) ?_; first | assumption | exact gup_s))))⟩) rfl (k_mlay (N := (N.set_l (va_up N.l 28 u)).set_code 0) (lay := -1) h0 hS hm hW hL hX hC (show 0 < 3 by decide) hc hu hlen) (Nat.le_of_ble_eq_true rfl) (Nat.le_of_ble_eq_true rfl) (Nat.le_of_ble_eq_true rfl) (Nat.le_of_ble_eq_true rfl) (Nat.le_of_ble_eq_true rfl) (fun M hS => ?_)
                           obtain ⟨N1, hS, hnz, hfl⟩ := hS
                           have hm1 : MR0 Q N1 := MR0.ne (N := (N.set_l (va_up N.l 28 u)).set_code 0) hm hnz.1
                           refine ri_istore h d_Md_find_104 (Nat.le_of_ble_eq_true rfl) ?_
                           refine ri_iconstN h 0 d_Md_find_106 rfl ?_
                           refine ri_istore h d_Md_find_107 (Nat.le_of_ble_eq_true rfl) ?_
                           refine ri_iconstN h 0 d_Md_find_109 rfl ?_
                           refine ri_istore h d_Md_find_110 (Nat.le_of_ble_eq_true rfl) ?_
                           exact ri_ls [(0, .ref (ad 30 0)), (2, .long x0), (4, .long y0), (6, .long x1), (8, .long y1), (10, .int (nI (FLn Q (-1) 21 c (0, 0, 0)).length)), (11, .int (nI (((FLn Q (-1) 21 c (0, 0, 0)).take 0).filter (fnd Q x0 y0 x1 y1)).length)), (12, .int (nI 0))] ⟨rfl, rfl, rfl, rfl, rfl, rfl, rfl, rfl, trivial⟩ (LP u N1 hnz hfl hm1 (FLn Q (-1) 21 c (0, 0, 0)).length 0 (by omega) M (mbx N1) N1.any hS))
                      · first
                        | (exfalso; first | exact absurd c_92 (by decide) | first | contradiction | omega)
                        | (refine ri_iconstN h 0 d_Md_find_95 rfl ?_
                           refine ri_ireturn h d_Md_find_96 (Nat.le_of_ble_eq_true rfl) (Nat.le_of_ble_eq_true rfl) ?_
                           exact ⟨rfl, rfl⟩))
                 · first
                   | (exfalso; first | exact absurd c_36 (by decide) | first | contradiction | omega)
                   | (refine ri_lload h d_Md_find_39 rfl ?_
                      refine ri_cSv_1 h d_Md_find_41 cs_Md_136 (k_far h0) (Nat.le_of_ble_eq_true rfl) (Nat.le_of_ble_eq_true rfl) (Nat.le_of_ble_eq_true rfl) (Nat.le_of_ble_eq_true rfl) (Nat.le_of_ble_eq_true rfl) ?_
                      first | refine ri_ifB_ne h 63 d_Md_find_44 (by decide) (fun c_44 => ?_) (fun c_44 => ?_) | refine ri_ifN_ne h 63 d_Md_find_44 (by decide) (by omega) (fun c_44 => ?_) (fun c_44 => ?_) | refine ri_if_ne h 63 d_Md_find_44 (by decide) (fun c_44 => ?_) (fun c_44 => ?_)
                      · first
                        | (exfalso; first | exact absurd c_44 (by decide) | first | contradiction | omega)
                        | (refine ri_iconstN h 2 d_Md_find_63 rfl ?_
                           refine ri_goto h 85 d_Md_find_64 (by decide) ?_
                           refine ri_pm_code h d_Md_find_85 fl_Md_108 hS (fun M hS => ?_)
                           refine ri_aload_n h d_Md_find_88 rfl ?_
                           refine ri_get h d_Md_find_89 fl_Md_108 (by first | assumption | exact hS.mo | exact gup_s) (by rfl) ?_
                           try dsimp only [MS.code, MS.set_code]
                           first | refine ri_ifN_le h 97 d_Md_find_92 (by decide) (by omega) (fun c_92 => ?_) (fun c_92 => ?_) | refine ri_if_le h 97 d_Md_find_92 (by decide) (fun c_92 => ?_) (fun c_92 => ?_)
                           · first
                             | (exfalso; first | exact absurd c_92 (by decide) | first | contradiction | omega)
                             | (refine ri_aload_n h d_Md_find_97 rfl ?_
                                refine ri_iconstN h 0 d_Md_find_98 rfl ?_
                                refine ri_iload_n h d_Md_find_99 rfl ?_
                                refine ri_iconst h (-1) d_Md_find_100 rfl ?_
                                refine ri_dVv_3 (r := (gR6, gT6, 44)) h d_Md_find_101 cv_Md_185 (by first | exact hS.lcO | exact hS.lsO | exact hS.lpO | exact hS.cesO (by first | assumption | omega) | exact hS.cepO (by first | assumption | omega) | exact ⟨_, (by first | assumption | exact hS.st | exact hS.mo | exact hS.out | exact hS.sb | exact hS.ce (by first | assumption | omega) | exact hS.ceb (by first | assumption | omega) | exact hS.sh (by first | assumption | omega) | exact hS.shb (by first | assumption | omega) | exact hS.pl (by first | assumption | omega) | exact hS.plb (by first | assumption | omega) | exact hS.fl (by first | assumption | omega) | exact gup_s | (refine gup_t (by assumption) ?_; first | assumption | exact gup_s | (refine gup_t (by assumption) ?_; first | assumption | exact gup_s | (refine gup_t (by assumption) ?_; first | assumption | exact gup_s))))⟩) rfl (k_mlay (N := (N.set_l (va_up N.l 28 u)).set_code 0) (lay := -1) h0 hS hm hW hL hX hC (show 0 < 3 by decide) hc hu hlen) (Nat.le_of_ble_eq_true rfl) (Nat.le_of_ble_eq_true rfl) (Nat.le_of_ble_eq_true rfl) (Nat.le_of_ble_eq_true rfl) (Nat.le_of_ble_eq_true rfl) (fun M hS => ?_)
                                obtain ⟨N1, hS, hnz, hfl⟩ := hS
                                have hm1 : MR0 Q N1 := MR0.ne (N := (N.set_l (va_up N.l 28 u)).set_code 0) hm hnz.1
                                refine ri_istore h d_Md_find_104 (Nat.le_of_ble_eq_true rfl) ?_
                                refine ri_iconstN h 0 d_Md_find_106 rfl ?_
                                refine ri_istore h d_Md_find_107 (Nat.le_of_ble_eq_true rfl) ?_
                                refine ri_iconstN h 0 d_Md_find_109 rfl ?_
                                refine ri_istore h d_Md_find_110 (Nat.le_of_ble_eq_true rfl) ?_
                                exact ri_ls [(0, .ref (ad 30 0)), (2, .long x0), (4, .long y0), (6, .long x1), (8, .long y1), (10, .int (nI (FLn Q (-1) 21 c (0, 0, 0)).length)), (11, .int (nI (((FLn Q (-1) 21 c (0, 0, 0)).take 0).filter (fnd Q x0 y0 x1 y1)).length)), (12, .int (nI 0))] ⟨rfl, rfl, rfl, rfl, rfl, rfl, rfl, rfl, trivial⟩ (LP u N1 hnz hfl hm1 (FLn Q (-1) 21 c (0, 0, 0)).length 0 (by omega) M (mbx N1) N1.any hS))
                           · first
                             | (exfalso; first | exact absurd c_92 (by decide) | first | contradiction | omega)
                             | (refine ri_iconstN h 0 d_Md_find_95 rfl ?_
                                refine ri_ireturn h d_Md_find_96 (Nat.le_of_ble_eq_true rfl) (Nat.le_of_ble_eq_true rfl) ?_
                                exact ⟨rfl, rfl⟩))
                      · first
                        | (exfalso; first | exact absurd c_44 (by decide) | first | contradiction | omega)
                        | (refine ri_lload h d_Md_find_47 rfl ?_
                           refine ri_cSv_1 h d_Md_find_49 cs_Md_136 (k_far h0) (Nat.le_of_ble_eq_true rfl) (Nat.le_of_ble_eq_true rfl) (Nat.le_of_ble_eq_true rfl) (Nat.le_of_ble_eq_true rfl) (Nat.le_of_ble_eq_true rfl) ?_
                           first | refine ri_ifB_ne h 63 d_Md_find_52 (by decide) (fun c_52 => ?_) (fun c_52 => ?_) | refine ri_ifN_ne h 63 d_Md_find_52 (by decide) (by omega) (fun c_52 => ?_) (fun c_52 => ?_) | refine ri_if_ne h 63 d_Md_find_52 (by decide) (fun c_52 => ?_) (fun c_52 => ?_)
                           · first
                             | (exfalso; first | exact absurd c_52 (by decide) | first | contradiction | omega)
                             | (refine ri_iconstN h 2 d_Md_find_63 rfl ?_
                                refine ri_goto h 85 d_Md_find_64 (by decide) ?_
                                refine ri_pm_code h d_Md_find_85 fl_Md_108 hS (fun M hS => ?_)
                                refine ri_aload_n h d_Md_find_88 rfl ?_
                                refine ri_get h d_Md_find_89 fl_Md_108 (by first | assumption | exact hS.mo | exact gup_s) (by rfl) ?_
                                try dsimp only [MS.code, MS.set_code]
                                first | refine ri_ifN_le h 97 d_Md_find_92 (by decide) (by omega) (fun c_92 => ?_) (fun c_92 => ?_) | refine ri_if_le h 97 d_Md_find_92 (by decide) (fun c_92 => ?_) (fun c_92 => ?_)
                                · first
                                  | (exfalso; first | exact absurd c_92 (by decide) | first | contradiction | omega)
                                  | (refine ri_aload_n h d_Md_find_97 rfl ?_
                                     refine ri_iconstN h 0 d_Md_find_98 rfl ?_
                                     refine ri_iload_n h d_Md_find_99 rfl ?_
                                     refine ri_iconst h (-1) d_Md_find_100 rfl ?_
                                     refine ri_dVv_3 (r := (gR6, gT6, 44)) h d_Md_find_101 cv_Md_185 (by first | exact hS.lcO | exact hS.lsO | exact hS.lpO | exact hS.cesO (by first | assumption | omega) | exact hS.cepO (by first | assumption | omega) | exact ⟨_, (by first | assumption | exact hS.st | exact hS.mo | exact hS.out | exact hS.sb | exact hS.ce (by first | assumption | omega) | exact hS.ceb (by first | assumption | omega) | exact hS.sh (by first | assumption | omega) | exact hS.shb (by first | assumption | omega) | exact hS.pl (by first | assumption | omega) | exact hS.plb (by first | assumption | omega) | exact hS.fl (by first | assumption | omega) | exact gup_s | (refine gup_t (by assumption) ?_; first | assumption | exact gup_s | (refine gup_t (by assumption) ?_; first | assumption | exact gup_s | (refine gup_t (by assumption) ?_; first | assumption | exact gup_s))))⟩) rfl (k_mlay (N := (N.set_l (va_up N.l 28 u)).set_code 0) (lay := -1) h0 hS hm hW hL hX hC (show 0 < 3 by decide) hc hu hlen) (Nat.le_of_ble_eq_true rfl) (Nat.le_of_ble_eq_true rfl) (Nat.le_of_ble_eq_true rfl) (Nat.le_of_ble_eq_true rfl) (Nat.le_of_ble_eq_true rfl) (fun M hS => ?_)
                                     obtain ⟨N1, hS, hnz, hfl⟩ := hS
                                     have hm1 : MR0 Q N1 := MR0.ne (N := (N.set_l (va_up N.l 28 u)).set_code 0) hm hnz.1
                                     refine ri_istore h d_Md_find_104 (Nat.le_of_ble_eq_true rfl) ?_
                                     refine ri_iconstN h 0 d_Md_find_106 rfl ?_
                                     refine ri_istore h d_Md_find_107 (Nat.le_of_ble_eq_true rfl) ?_
                                     refine ri_iconstN h 0 d_Md_find_109 rfl ?_
                                     refine ri_istore h d_Md_find_110 (Nat.le_of_ble_eq_true rfl) ?_
                                     exact ri_ls [(0, .ref (ad 30 0)), (2, .long x0), (4, .long y0), (6, .long x1), (8, .long y1), (10, .int (nI (FLn Q (-1) 21 c (0, 0, 0)).length)), (11, .int (nI (((FLn Q (-1) 21 c (0, 0, 0)).take 0).filter (fnd Q x0 y0 x1 y1)).length)), (12, .int (nI 0))] ⟨rfl, rfl, rfl, rfl, rfl, rfl, rfl, rfl, trivial⟩ (LP u N1 hnz hfl hm1 (FLn Q (-1) 21 c (0, 0, 0)).length 0 (by omega) M (mbx N1) N1.any hS))
                                · first
                                  | (exfalso; first | exact absurd c_92 (by decide) | first | contradiction | omega)
                                  | (refine ri_iconstN h 0 d_Md_find_95 rfl ?_
                                     refine ri_ireturn h d_Md_find_96 (Nat.le_of_ble_eq_true rfl) (Nat.le_of_ble_eq_true rfl) ?_
                                     exact ⟨rfl, rfl⟩))
                           · first
                             | (exfalso; first | exact absurd c_52 (by decide) | first | contradiction | omega)
                             | (refine ri_lload h d_Md_find_55 rfl ?_
                                refine ri_cSv_1 h d_Md_find_57 cs_Md_136 (k_far h0) (Nat.le_of_ble_eq_true rfl) (Nat.le_of_ble_eq_true rfl) (Nat.le_of_ble_eq_true rfl) (Nat.le_of_ble_eq_true rfl) (Nat.le_of_ble_eq_true rfl) ?_
                                first | refine ri_ifB_eq h 67 d_Md_find_60 (by decide) (fun c_60 => ?_) (fun c_60 => ?_) | refine ri_ifN_eq h 67 d_Md_find_60 (by decide) (by omega) (fun c_60 => ?_) (fun c_60 => ?_) | refine ri_if_eq h 67 d_Md_find_60 (by decide) (fun c_60 => ?_) (fun c_60 => ?_)
                                · first
                                  | (exfalso; first | exact absurd c_60 (by decide) | first | contradiction | omega)
                                  | (refine ri_aload_n h d_Md_find_67 rfl ?_
                                     refine ri_get h d_Md_find_68 fl_Md_79 (by first | assumption | exact hS.mo | exact gup_s) (by rfl) ?_
                                     refine ri_iload_n h d_Md_find_71 rfl ?_
                                     refine ri_laldE h _ d_Md_find_72 (by first | assumption | exact hS.a28) (by first | rfl | assumption) (by first | assumption | omega) (by first | decide | omega) (by first | assumption | assumption | rfl) ?_
                                     refine ri_ldc2 h 3000 d_Md_find_73 kl_Md_183 ?_
                                     refine ri_lcmp_le h 84 d_Md_find_76 d_Md_find_77 (by decide) (fun c_76 => ?_) (fun c_76 => ?_)
                                     · first
                                       | (exfalso; first | exact absurd c_76 (by decide) | first | contradiction | omega)
                                       | (refine ri_iconstN h 0 d_Md_find_84 rfl ?_
                                          refine ri_pm_code h d_Md_find_85 fl_Md_108 hS (fun M hS => ?_)
                                          refine ri_aload_n h d_Md_find_88 rfl ?_
                                          refine ri_get h d_Md_find_89 fl_Md_108 (by first | assumption | exact hS.mo | exact gup_s) (by rfl) ?_
                                          try dsimp only [MS.code, MS.set_code]
                                          first | refine ri_ifN_le h 97 d_Md_find_92 (by decide) (by omega) (fun c_92 => ?_) (fun c_92 => ?_) | refine ri_if_le h 97 d_Md_find_92 (by decide) (fun c_92 => ?_) (fun c_92 => ?_)
                                          · first
                                            | (exfalso; first | exact absurd c_92 (by decide) | first | contradiction | omega)
                                            | (refine ri_aload_n h d_Md_find_97 rfl ?_
                                               refine ri_iconstN h 0 d_Md_find_98 rfl ?_
                                               refine ri_iload_n h d_Md_find_99 rfl ?_
                                               refine ri_iconst h (-1) d_Md_find_100 rfl ?_
                                               refine ri_dVv_3 (r := (gR6, gT6, 44)) h d_Md_find_101 cv_Md_185 (by first | exact hS.lcO | exact hS.lsO | exact hS.lpO | exact hS.cesO (by first | assumption | omega) | exact hS.cepO (by first | assumption | omega) | exact ⟨_, (by first | assumption | exact hS.st | exact hS.mo | exact hS.out | exact hS.sb | exact hS.ce (by first | assumption | omega) | exact hS.ceb (by first | assumption | omega) | exact hS.sh (by first | assumption | omega) | exact hS.shb (by first | assumption | omega) | exact hS.pl (by first | assumption | omega) | exact hS.plb (by first | assumption | omega) | exact hS.fl (by first | assumption | omega) | exact gup_s | (refine gup_t (by assumption) ?_; first | assumption | exact gup_s | (refine gup_t (by assumption) ?_; first | assumption | exact gup_s | (refine gup_t (by assumption) ?_; first | assumption | exact gup_s))))⟩) rfl (k_mlay (N := (N.set_l (va_up N.l 28 u)).set_code 0) (lay := -1) h0 hS hm hW hL hX hC (show 0 < 3 by decide) hc hu hlen) (Nat.le_of_ble_eq_true rfl) (Nat.le_of_ble_eq_true rfl) (Nat.le_of_ble_eq_true rfl) (Nat.le_of_ble_eq_true rfl) (Nat.le_of_ble_eq_true rfl) (fun M hS => ?_)
                                               obtain ⟨N1, hS, hnz, hfl⟩ := hS
                                               have hm1 : MR0 Q N1 := MR0.ne (N := (N.set_l (va_up N.l 28 u)).set_code 0) hm hnz.1
                                               refine ri_istore h d_Md_find_104 (Nat.le_of_ble_eq_true rfl) ?_
                                               refine ri_iconstN h 0 d_Md_find_106 rfl ?_
                                               refine ri_istore h d_Md_find_107 (Nat.le_of_ble_eq_true rfl) ?_
                                               refine ri_iconstN h 0 d_Md_find_109 rfl ?_
                                               refine ri_istore h d_Md_find_110 (Nat.le_of_ble_eq_true rfl) ?_
                                               exact ri_ls [(0, .ref (ad 30 0)), (2, .long x0), (4, .long y0), (6, .long x1), (8, .long y1), (10, .int (nI (FLn Q (-1) 21 c (0, 0, 0)).length)), (11, .int (nI (((FLn Q (-1) 21 c (0, 0, 0)).take 0).filter (fnd Q x0 y0 x1 y1)).length)), (12, .int (nI 0))] ⟨rfl, rfl, rfl, rfl, rfl, rfl, rfl, rfl, trivial⟩ (LP u N1 hnz hfl hm1 (FLn Q (-1) 21 c (0, 0, 0)).length 0 (by omega) M (mbx N1) N1.any hS))
                                          · first
                                            | (exfalso; first | exact absurd c_92 (by decide) | first | contradiction | omega)
                                            | (refine ri_iconstN h 0 d_Md_find_95 rfl ?_
                                               refine ri_ireturn h d_Md_find_96 (Nat.le_of_ble_eq_true rfl) (Nat.le_of_ble_eq_true rfl) ?_
                                               exact ⟨rfl, rfl⟩))
                                     · first
                                       | (exfalso; first | exact absurd c_76 (by decide) | first | contradiction | omega)
                                       | (refine ri_iconstN h 3 d_Md_find_80 rfl ?_
                                          refine ri_goto h 85 d_Md_find_81 (by decide) ?_
                                          refine ri_pm_code h d_Md_find_85 fl_Md_108 hS (fun M hS => ?_)
                                          refine ri_aload_n h d_Md_find_88 rfl ?_
                                          refine ri_get h d_Md_find_89 fl_Md_108 (by first | assumption | exact hS.mo | exact gup_s) (by rfl) ?_
                                          try dsimp only [MS.code, MS.set_code]
                                          first | refine ri_ifN_le h 97 d_Md_find_92 (by decide) (by omega) (fun c_92 => ?_) (fun c_92 => ?_) | refine ri_if_le h 97 d_Md_find_92 (by decide) (fun c_92 => ?_) (fun c_92 => ?_)
                                          · first
                                            | (exfalso; first | exact absurd c_92 (by decide) | first | contradiction | omega)
                                            | (refine ri_aload_n h d_Md_find_97 rfl ?_
                                               refine ri_iconstN h 0 d_Md_find_98 rfl ?_
                                               refine ri_iload_n h d_Md_find_99 rfl ?_
                                               refine ri_iconst h (-1) d_Md_find_100 rfl ?_
                                               refine ri_dVv_3 (r := (gR6, gT6, 44)) h d_Md_find_101 cv_Md_185 (by first | exact hS.lcO | exact hS.lsO | exact hS.lpO | exact hS.cesO (by first | assumption | omega) | exact hS.cepO (by first | assumption | omega) | exact ⟨_, (by first | assumption | exact hS.st | exact hS.mo | exact hS.out | exact hS.sb | exact hS.ce (by first | assumption | omega) | exact hS.ceb (by first | assumption | omega) | exact hS.sh (by first | assumption | omega) | exact hS.shb (by first | assumption | omega) | exact hS.pl (by first | assumption | omega) | exact hS.plb (by first | assumption | omega) | exact hS.fl (by first | assumption | omega) | exact gup_s | (refine gup_t (by assumption) ?_; first | assumption | exact gup_s | (refine gup_t (by assumption) ?_; first | assumption | exact gup_s | (refine gup_t (by assumption) ?_; first | assumption | exact gup_s))))⟩) rfl (k_mlay (N := (N.set_l (va_up N.l 28 u)).set_code 0) (lay := -1) h0 hS hm hW hL hX hC (show 0 < 3 by decide) hc hu hlen) (Nat.le_of_ble_eq_true rfl) (Nat.le_of_ble_eq_true rfl) (Nat.le_of_ble_eq_true rfl) (Nat.le_of_ble_eq_true rfl) (Nat.le_of_ble_eq_true rfl) (fun M hS => ?_)
                                               obtain ⟨N1, hS, hnz, hfl⟩ := hS
                                               have hm1 : MR0 Q N1 := MR0.ne (N := (N.set_l (va_up N.l 28 u)).set_code 0) hm hnz.1
                                               refine ri_istore h d_Md_find_104 (Nat.le_of_ble_eq_true rfl) ?_
                                               refine ri_iconstN h 0 d_Md_find_106 rfl ?_
                                               refine ri_istore h d_Md_find_107 (Nat.le_of_ble_eq_true rfl) ?_
                                               refine ri_iconstN h 0 d_Md_find_109 rfl ?_
                                               refine ri_istore h d_Md_find_110 (Nat.le_of_ble_eq_true rfl) ?_
                                               exact ri_ls [(0, .ref (ad 30 0)), (2, .long x0), (4, .long y0), (6, .long x1), (8, .long y1), (10, .int (nI (FLn Q (-1) 21 c (0, 0, 0)).length)), (11, .int (nI (((FLn Q (-1) 21 c (0, 0, 0)).take 0).filter (fnd Q x0 y0 x1 y1)).length)), (12, .int (nI 0))] ⟨rfl, rfl, rfl, rfl, rfl, rfl, rfl, rfl, trivial⟩ (LP u N1 hnz hfl hm1 (FLn Q (-1) 21 c (0, 0, 0)).length 0 (by omega) M (mbx N1) N1.any hS))
                                          · first
                                            | (exfalso; first | exact absurd c_92 (by decide) | first | contradiction | omega)
                                            | (refine ri_iconstN h 0 d_Md_find_95 rfl ?_
                                               refine ri_ireturn h d_Md_find_96 (Nat.le_of_ble_eq_true rfl) (Nat.le_of_ble_eq_true rfl) ?_
                                               exact ⟨rfl, rfl⟩)))
                                · first
                                  | (exfalso; first | exact absurd c_60 (by decide) | first | contradiction | omega)
                                  | (refine ri_iconstN h 2 d_Md_find_63 rfl ?_
                                     refine ri_goto h 85 d_Md_find_64 (by decide) ?_
                                     refine ri_pm_code h d_Md_find_85 fl_Md_108 hS (fun M hS => ?_)
                                     refine ri_aload_n h d_Md_find_88 rfl ?_
                                     refine ri_get h d_Md_find_89 fl_Md_108 (by first | assumption | exact hS.mo | exact gup_s) (by rfl) ?_
                                     try dsimp only [MS.code, MS.set_code]
                                     first | refine ri_ifN_le h 97 d_Md_find_92 (by decide) (by omega) (fun c_92 => ?_) (fun c_92 => ?_) | refine ri_if_le h 97 d_Md_find_92 (by decide) (fun c_92 => ?_) (fun c_92 => ?_)
                                     · first
                                       | (exfalso; first | exact absurd c_92 (by decide) | first | contradiction | omega)
                                       | (refine ri_aload_n h d_Md_find_97 rfl ?_
                                          refine ri_iconstN h 0 d_Md_find_98 rfl ?_
                                          refine ri_iload_n h d_Md_find_99 rfl ?_
                                          refine ri_iconst h (-1) d_Md_find_100 rfl ?_
                                          refine ri_dVv_3 (r := (gR6, gT6, 44)) h d_Md_find_101 cv_Md_185 (by first | exact hS.lcO | exact hS.lsO | exact hS.lpO | exact hS.cesO (by first | assumption | omega) | exact hS.cepO (by first | assumption | omega) | exact ⟨_, (by first | assumption | exact hS.st | exact hS.mo | exact hS.out | exact hS.sb | exact hS.ce (by first | assumption | omega) | exact hS.ceb (by first | assumption | omega) | exact hS.sh (by first | assumption | omega) | exact hS.shb (by first | assumption | omega) | exact hS.pl (by first | assumption | omega) | exact hS.plb (by first | assumption | omega) | exact hS.fl (by first | assumption | omega) | exact gup_s | (refine gup_t (by assumption) ?_; first | assumption | exact gup_s | (refine gup_t (by assumption) ?_; first | assumption | exact gup_s | (refine gup_t (by assumption) ?_; first | assumption | exact gup_s))))⟩) rfl (k_mlay (N := (N.set_l (va_up N.l 28 u)).set_code 0) (lay := -1) h0 hS hm hW hL hX hC (show 0 < 3 by decide) hc hu hlen) (Nat.le_of_ble_eq_true rfl) (Nat.le_of_ble_eq_true rfl) (Nat.le_of_ble_eq_true rfl) (Nat.le_of_ble_eq_true rfl) (Nat.le_of_ble_eq_true rfl) (fun M hS => ?_)
                                          obtain ⟨N1, hS, hnz, hfl⟩ := hS
                                          have hm1 : MR0 Q N1 := MR0.ne (N := (N.set_l (va_up N.l 28 u)).set_code 0) hm hnz.1
                                          refine ri_istore h d_Md_find_104 (Nat.le_of_ble_eq_true rfl) ?_
                                          refine ri_iconstN h 0 d_Md_find_106 rfl ?_
                                          refine ri_istore h d_Md_find_107 (Nat.le_of_ble_eq_true rfl) ?_
                                          refine ri_iconstN h 0 d_Md_find_109 rfl ?_
                                          refine ri_istore h d_Md_find_110 (Nat.le_of_ble_eq_true rfl) ?_
                                          exact ri_ls [(0, .ref (ad 30 0)), (2, .long x0), (4, .long y0), (6, .long x1), (8, .long y1), (10, .int (nI (FLn Q (-1) 21 c (0, 0, 0)).length)), (11, .int (nI (((FLn Q (-1) 21 c (0, 0, 0)).take 0).filter (fnd Q x0 y0 x1 y1)).length)), (12, .int (nI 0))] ⟨rfl, rfl, rfl, rfl, rfl, rfl, rfl, rfl, trivial⟩ (LP u N1 hnz hfl hm1 (FLn Q (-1) 21 c (0, 0, 0)).length 0 (by omega) M (mbx N1) N1.any hS))
                                     · first
                                       | (exfalso; first | exact absurd c_92 (by decide) | first | contradiction | omega)
                                       | (refine ri_iconstN h 0 d_Md_find_95 rfl ?_
                                          refine ri_ireturn h d_Md_find_96 (Nat.le_of_ble_eq_true rfl) (Nat.le_of_ble_eq_true rfl) ?_
                                          exact ⟨rfl, rfl⟩))))))))
  · first
    | (exfalso; first | exact absurd c_10 (by decide) | first | contradiction | omega)
    | (refine ri_iconstN h 1 d_Md_find_13 rfl ?_
       refine ri_goto h 85 d_Md_find_14 (by decide) ?_
       refine ri_pm_code h d_Md_find_85 fl_Md_108 hS (fun M hS => ?_)
       refine ri_aload_n h d_Md_find_88 rfl ?_
       refine ri_get h d_Md_find_89 fl_Md_108 (by first | assumption | exact hS.mo | exact gup_s) (by rfl) ?_
       try dsimp only [MS.code, MS.set_code]
       first | refine ri_ifN_le h 97 d_Md_find_92 (by decide) (by omega) (fun c_92 => ?_) (fun c_92 => ?_) | refine ri_if_le h 97 d_Md_find_92 (by decide) (fun c_92 => ?_) (fun c_92 => ?_)
       · first
         | (exfalso; first | exact absurd c_92 (by decide) | first | contradiction | omega)
         | (refine ri_aload_n h d_Md_find_97 rfl ?_
            refine ri_iconstN h 0 d_Md_find_98 rfl ?_
            refine ri_iload_n h d_Md_find_99 rfl ?_
            refine ri_iconst h (-1) d_Md_find_100 rfl ?_
            refine ri_dVv_3 (r := (gR6, gT6, 44)) h d_Md_find_101 cv_Md_185 (by first | exact hS.lcO | exact hS.lsO | exact hS.lpO | exact hS.cesO (by first | assumption | omega) | exact hS.cepO (by first | assumption | omega) | exact ⟨_, (by first | assumption | exact hS.st | exact hS.mo | exact hS.out | exact hS.sb | exact hS.ce (by first | assumption | omega) | exact hS.ceb (by first | assumption | omega) | exact hS.sh (by first | assumption | omega) | exact hS.shb (by first | assumption | omega) | exact hS.pl (by first | assumption | omega) | exact hS.plb (by first | assumption | omega) | exact hS.fl (by first | assumption | omega) | exact gup_s | (refine gup_t (by assumption) ?_; first | assumption | exact gup_s | (refine gup_t (by assumption) ?_; first | assumption | exact gup_s | (refine gup_t (by assumption) ?_; first | assumption | exact gup_s))))⟩) rfl (k_mlay (N := (N.set_l (va_up N.l 28 u)).set_code 0) (lay := -1) h0 hS hm hW hL hX hC (show 0 < 3 by decide) hc hu hlen) (Nat.le_of_ble_eq_true rfl) (Nat.le_of_ble_eq_true rfl) (Nat.le_of_ble_eq_true rfl) (Nat.le_of_ble_eq_true rfl) (Nat.le_of_ble_eq_true rfl) (fun M hS => ?_)
            obtain ⟨N1, hS, hnz, hfl⟩ := hS
            have hm1 : MR0 Q N1 := MR0.ne (N := (N.set_l (va_up N.l 28 u)).set_code 0) hm hnz.1
            refine ri_istore h d_Md_find_104 (Nat.le_of_ble_eq_true rfl) ?_
            refine ri_iconstN h 0 d_Md_find_106 rfl ?_
            refine ri_istore h d_Md_find_107 (Nat.le_of_ble_eq_true rfl) ?_
            refine ri_iconstN h 0 d_Md_find_109 rfl ?_
            refine ri_istore h d_Md_find_110 (Nat.le_of_ble_eq_true rfl) ?_
            exact ri_ls [(0, .ref (ad 30 0)), (2, .long x0), (4, .long y0), (6, .long x1), (8, .long y1), (10, .int (nI (FLn Q (-1) 21 c (0, 0, 0)).length)), (11, .int (nI (((FLn Q (-1) 21 c (0, 0, 0)).take 0).filter (fnd Q x0 y0 x1 y1)).length)), (12, .int (nI 0))] ⟨rfl, rfl, rfl, rfl, rfl, rfl, rfl, rfl, trivial⟩ (LP u N1 hnz hfl hm1 (FLn Q (-1) 21 c (0, 0, 0)).length 0 (by omega) M (mbx N1) N1.any hS))
       · first
         | (exfalso; first | exact absurd c_92 (by decide) | first | contradiction | omega)
         | (refine ri_iconstN h 0 d_Md_find_95 rfl ?_
            refine ri_ireturn h d_Md_find_96 (Nat.le_of_ble_eq_true rfl) (Nat.le_of_ble_eq_true rfl) ?_
            exact ⟨rfl, rfl⟩))
end MFI
