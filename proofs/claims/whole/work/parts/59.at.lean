/-! at, refused -/
theorem ix_2 {a : Int32} (h1 : ¬ a < 0) (h2 : a ≤ nI 1) : ∃ x, x < 2 ∧ a = nI x := by
  refine ix_of (by decide) h1 ?_
  rw [Int32.lt_iff_toInt_lt]
  rw [Int32.le_iff_toInt_le] at h2
  have e1 : (nI 1).toInt = 1 := by decide
  have e2 : (nI 2).toInt = 2 := by decide
  omega
section AT
variable {l : Launch} {D : gD} {s0 : State} {M : gH} {z : Nat} {ad : gA} {Q Qc : CS} {N : MS}
theorem k_at_no (h0 : g_0 l D s0) (hS : HS z ad Q N M) (hF : WFl Q.nS Q.sh (Q.fl 0)) (hsc : ∀ s, s < Q.nS → (Q.sh s).cnt ≤ 24) {v w a : Int32} (hn : ¬ ∃ i k x, i < (Q.fl 0).cnt ∧ v = nI i ∧ k < (Q.fl 0).cor i ∧ w = nI k ∧ x < 2 ∧ a = nI x) : Ct l D s0 y_ST_at (Cond.code y_ST_at b_ST_at 4 (some .long)) rkC [.ref (ad 0 0), .int v, .int w, .int a] M (fE eIO M) := by
  have hj0 : (0 : Nat) < 3 := by decide
  have hc := hF.1
  by_cases hv : ∃ i, i < (Q.fl 0).cnt ∧ v = nI i
  · obtain ⟨i, hi, rfl⟩ := hv
    obtain ⟨f1, f2, f3, f4⟩ := hF.2 i hi
    have f5 := hsc _ f2
    have hi3 : i < 3000 := Nat.lt_of_lt_of_le hi hc
    refine Ct.of h0 (by decide +kernel) rfl fun X hX h => ?_
    obtain ⟨p_, l', e_, R_, s_, m_, ar_, be_, me_, c_⟩ := X
    obtain rfl : l' = l := hX
    refine ri_iload_n h d_ST_at_0 rfl ?_
    refine ri_ifM_lt h 15 d_ST_at_1 (by decide) (by omega) (fun c_1 => ?_) (fun c_1 => ?_)
    · exact c_1.elim
    · refine ri_iload_n h d_ST_at_4 rfl ?_
      refine ri_aload_n h d_ST_at_5 rfl ?_
      refine ri_get h d_ST_at_6 fl_ST_25 (by first | assumption | exact hS.st | exact gup_s) (by rfl) ?_
      refine ri_get h d_ST_at_9 fl_ST_182 (by first | assumption | exact hS.fl_of (by first | assumption | omega) (by assumption) | exact hS.fl (by first | assumption | omega) | exact gup_s) (by rfl) ?_
      first | refine ri_icmpN_lt h 25 d_ST_at_12 (by decide) (by omega) (by omega) (fun c_12 => ?_) (fun c_12 => ?_) | refine ri_icmp_lt h 25 d_ST_at_12 (by decide) (fun c_12 => ?_) (fun c_12 => ?_)
      · refine ri_iload_n h d_ST_at_25 rfl ?_
        refine ri_if_lt h 42 d_ST_at_26 (by decide) (fun c_26 => ?_) (fun c_26 => ?_)
        · refine ri_throw h tw_191 d_ST_at_42 d_ST_at_45 d_ST_at_46 d_ST_at_48 d_ST_at_51 (Nat.le_of_ble_eq_true rfl) (Nat.le_of_ble_eq_true rfl) (Nat.le_of_ble_eq_true rfl) (Nat.le_of_ble_eq_true rfl) ?_
          exact ⟨rfl, rfl⟩
        · refine ri_iload_n h d_ST_at_29 rfl ?_
          refine ri_aload_n h d_ST_at_30 rfl ?_
          refine ri_get h d_ST_at_31 fl_ST_25 (by first | assumption | exact hS.st | exact gup_s) (by rfl) ?_
          refine ri_get h d_ST_at_34 fl_ST_187 (by first | assumption | exact hS.fl_of (by first | assumption | omega) (by assumption) | exact hS.fl (by first | assumption | omega) | exact gup_s) (by rfl) ?_
          refine ri_iload_n h d_ST_at_37 rfl ?_
          refine ri_iald h _ d_ST_at_38 (by first | assumption | exact hS.flc_of (by first | assumption | omega) (by assumption) | exact hS.flc (by first | assumption | omega)) (by first | rfl | assumption) (by first | assumption | omega) (by first | decide | omega) ?_
          refine ri_icmp_lt h 52 d_ST_at_39 (by decide) (fun c_39 => ?_) (fun c_39 => ?_)
          · refine ri_iload_n h d_ST_at_52 rfl ?_
            refine ri_if_lt h 61 d_ST_at_53 (by decide) (fun c_53 => ?_) (fun c_53 => ?_)
            · refine ri_throw h tw_193 d_ST_at_61 d_ST_at_64 d_ST_at_65 d_ST_at_67 d_ST_at_70 (Nat.le_of_ble_eq_true rfl) (Nat.le_of_ble_eq_true rfl) (Nat.le_of_ble_eq_true rfl) (Nat.le_of_ble_eq_true rfl) ?_
              exact ⟨rfl, rfl⟩
            · refine ri_iload_n h d_ST_at_56 rfl ?_
              refine ri_iconstN h 1 d_ST_at_57 rfl ?_
              refine ri_icmp_le h 71 d_ST_at_58 (by decide) (fun c_58 => ?_) (fun c_58 => ?_)
              · exact absurd (by obtain ⟨k, hk, ek⟩ := ix_of (by omega) c_26 c_39; obtain ⟨x, hx, ex⟩ := ix_2 c_53 c_58; exact ⟨i, k, x, hi, rfl, hk, ek, hx, ex⟩) hn
              · refine ri_throw h tw_193 d_ST_at_61 d_ST_at_64 d_ST_at_65 d_ST_at_67 d_ST_at_70 (Nat.le_of_ble_eq_true rfl) (Nat.le_of_ble_eq_true rfl) (Nat.le_of_ble_eq_true rfl) (Nat.le_of_ble_eq_true rfl) ?_
                exact ⟨rfl, rfl⟩
          · refine ri_throw h tw_191 d_ST_at_42 d_ST_at_45 d_ST_at_46 d_ST_at_48 d_ST_at_51 (Nat.le_of_ble_eq_true rfl) (Nat.le_of_ble_eq_true rfl) (Nat.le_of_ble_eq_true rfl) (Nat.le_of_ble_eq_true rfl) ?_
            exact ⟨rfl, rfl⟩
      · omega
  · refine Ct.of h0 (by decide +kernel) rfl fun X hX h => ?_
    obtain ⟨p_, l', e_, R_, s_, m_, ar_, be_, me_, c_⟩ := X
    obtain rfl : l' = l := hX
    refine ri_iload_n h d_ST_at_0 rfl ?_
    refine ri_if_lt h 15 d_ST_at_1 (by decide) (fun c_1 => ?_) (fun c_1 => ?_)
    · refine ri_throw h tw_185 d_ST_at_15 d_ST_at_18 d_ST_at_19 d_ST_at_21 d_ST_at_24 (Nat.le_of_ble_eq_true rfl) (Nat.le_of_ble_eq_true rfl) (Nat.le_of_ble_eq_true rfl) (Nat.le_of_ble_eq_true rfl) ?_
      exact ⟨rfl, rfl⟩
    · refine ri_iload_n h d_ST_at_4 rfl ?_
      refine ri_aload_n h d_ST_at_5 rfl ?_
      refine ri_get h d_ST_at_6 fl_ST_25 (by first | assumption | exact hS.st | exact gup_s) (by rfl) ?_
      refine ri_get h d_ST_at_9 fl_ST_182 (by first | assumption | exact hS.fl_of (by first | assumption | omega) (by assumption) | exact hS.fl (by first | assumption | omega) | exact gup_s) (by rfl) ?_
      refine ri_icmp_lt h 25 d_ST_at_12 (by decide) (fun c_12 => ?_) (fun c_12 => ?_)
      · exact absurd (ix_of (by omega) c_1 c_12) hv
      · refine ri_throw h tw_185 d_ST_at_15 d_ST_at_18 d_ST_at_19 d_ST_at_21 d_ST_at_24 (Nat.le_of_ble_eq_true rfl) (Nat.le_of_ble_eq_true rfl) (Nat.le_of_ble_eq_true rfl) (Nat.le_of_ble_eq_true rfl) ?_
        exact ⟨rfl, rfl⟩
theorem k_mat_no (h0 : g_0 l D s0) (hS : HS z ad Qc N M) (hm : MR Q N) (hF : WFl Q.nS Q.sh (Q.fl 0)) (hsc : ∀ s, s < Q.nS → (Q.sh s).cnt ≤ 24) {v w a : Int32} (hn : ¬ ∃ i k x, i < (Q.fl 0).cnt ∧ v = nI i ∧ k < (Q.fl 0).cor i ∧ w = nI k ∧ x < 2 ∧ a = nI x) : Ct l D s0 y_Md_at (Cond.code y_Md_at b_Md_at 5 (some .long)) rkM [.ref (ad 30 0), .int v, .int w, .int a] M (fM z ad Qc (some (.long 0)) (fun N' => N' = N.set_code 1)) := by
  have hc := hF.1
  by_cases hv : ∃ i, i < (Q.fl 0).cnt ∧ v = nI i
  · obtain ⟨i, hi, rfl⟩ := hv
    obtain ⟨f1, f2, f3, f4⟩ := hF.2 i hi
    have f5 := hsc _ f2
    have hi3 : i < 3000 := Nat.lt_of_lt_of_le hi hc
    refine Ct.of h0 (by decide +kernel) rfl fun X hX h => ?_
    obtain ⟨p_, l', e_, R_, s_, m_, ar_, be_, me_, c_⟩ := X
    obtain rfl : l' = l := hX
    refine ri_aload_n h d_Md_at_0 rfl ?_
    refine ri_iload_n h d_Md_at_1 rfl ?_
    refine ri_ifM_lt h 22 d_Md_at_2 (by decide) (by omega) (fun c_2 => ?_) (fun c_2 => ?_)
    · exact c_2.elim
    · first
      | (exfalso; first | exact absurd c_2 (by decide) | omega)
      | (refine ri_iload_n h d_Md_at_5 rfl ?_
         refine ri_aload_n h d_Md_at_6 rfl ?_
         refine ri_get h d_Md_at_7 fl_Md_188 (by first | assumption | exact hS.mo | exact gup_s) (by first | exact congrArg (fun x => some (Value.int (nI x))) hm.ha | rfl) ?_
         first | refine ri_icmpN_ge h 22 d_Md_at_10 (by decide) (by omega) (by omega) (fun c_10 => ?_) (fun c_10 => ?_) | refine ri_icmp_ge h 22 d_Md_at_10 (by decide) (fun c_10 => ?_) (fun c_10 => ?_)
         · first
           | (exfalso; first | exact absurd c_10 (by decide) | omega)
           | (refine ri_iconstN h 1 d_Md_at_22 rfl ?_
              refine ri_goto h 49 d_Md_at_23 (by decide) ?_
              refine ri_pm_code h d_Md_at_49 fl_Md_108 hS (fun M hS => ?_)
              refine ri_ldcN h 144000 d_Md_at_52 kc_Md_191 rfl ?_
              refine ri_bipushN h 24 d_Md_at_54 rfl ?_
              refine ri_iload_n h d_Md_at_56 rfl ?_
              first | refine ri_imulN h d_Md_at_57 ?_ | refine ri_imul h d_Md_at_57 ?_
              first | refine ri_iaddN h d_Md_at_58 ?_ | refine ri_iadd h d_Md_at_58 ?_
              refine ri_iload_n h d_Md_at_59 rfl ?_
              first | refine ri_iaddN h d_Md_at_60 ?_ | refine ri_iadd h d_Md_at_60 ?_
              refine ri_istore h d_Md_at_61 (Nat.le_of_ble_eq_true rfl) ?_
              refine ri_aload_n h d_Md_at_63 rfl ?_
              refine ri_get h d_Md_at_64 fl_Md_108 (by first | assumption | exact hS.mo | exact gup_s) (by rfl) ?_
              try dsimp only [MS.code, MS.set_code]
              first | refine ri_ifN_le h 74 d_Md_at_67 (by decide) (by omega) (fun c_67 => ?_) (fun c_67 => ?_) | refine ri_if_le h 74 d_Md_at_67 (by decide) (fun c_67 => ?_) (fun c_67 => ?_)
              · first
                | (exfalso; first | exact absurd c_67 (by decide) | omega)
                | (omega)
              · first
                | (exfalso; first | exact absurd c_67 (by decide) | omega)
                | (refine ri_lconst h 0 d_Md_at_70 rfl ?_
                   refine ri_goto h 95 d_Md_at_71 (by decide) ?_
                   refine ri_lreturn h d_Md_at_95 (Nat.le_of_ble_eq_true rfl) (Nat.le_of_ble_eq_true rfl) ?_
                   exact ⟨rfl, _, hS, rfl⟩))
         · first
           | (exfalso; first | exact absurd c_10 (by decide) | omega)
           | (refine ri_iload_n h d_Md_at_13 rfl ?_
              refine ri_if_lt h 22 d_Md_at_14 (by decide) (fun c_14 => ?_) (fun c_14 => ?_)
              · first
                | (exfalso; first | exact absurd c_14 (by decide) | omega)
                | (refine ri_iconstN h 1 d_Md_at_22 rfl ?_
                   refine ri_goto h 49 d_Md_at_23 (by decide) ?_
                   refine ri_pm_code h d_Md_at_49 fl_Md_108 hS (fun M hS => ?_)
                   refine ri_ldcN h 144000 d_Md_at_52 kc_Md_191 rfl ?_
                   refine ri_bipushN h 24 d_Md_at_54 rfl ?_
                   refine ri_iload_n h d_Md_at_56 rfl ?_
                   first | refine ri_imulN h d_Md_at_57 ?_ | refine ri_imul h d_Md_at_57 ?_
                   first | refine ri_iaddN h d_Md_at_58 ?_ | refine ri_iadd h d_Md_at_58 ?_
                   refine ri_iload_n h d_Md_at_59 rfl ?_
                   first | refine ri_iaddN h d_Md_at_60 ?_ | refine ri_iadd h d_Md_at_60 ?_
                   refine ri_istore h d_Md_at_61 (Nat.le_of_ble_eq_true rfl) ?_
                   refine ri_aload_n h d_Md_at_63 rfl ?_
                   refine ri_get h d_Md_at_64 fl_Md_108 (by first | assumption | exact hS.mo | exact gup_s) (by rfl) ?_
                   try dsimp only [MS.code, MS.set_code]
                   first | refine ri_ifN_le h 74 d_Md_at_67 (by decide) (by omega) (fun c_67 => ?_) (fun c_67 => ?_) | refine ri_if_le h 74 d_Md_at_67 (by decide) (fun c_67 => ?_) (fun c_67 => ?_)
                   · first
                     | (exfalso; first | exact absurd c_67 (by decide) | omega)
                     | (omega)
                   · first
                     | (exfalso; first | exact absurd c_67 (by decide) | omega)
                     | (refine ri_lconst h 0 d_Md_at_70 rfl ?_
                        refine ri_goto h 95 d_Md_at_71 (by decide) ?_
                        refine ri_lreturn h d_Md_at_95 (Nat.le_of_ble_eq_true rfl) (Nat.le_of_ble_eq_true rfl) ?_
                        exact ⟨rfl, _, hS, rfl⟩))
              · first
                | (exfalso; first | exact absurd c_14 (by decide) | omega)
                | (refine ri_iload_n h d_Md_at_17 rfl ?_
                   refine ri_iconstN h 1 d_Md_at_18 rfl ?_
                   refine ri_icmp_le h 26 d_Md_at_19 (by decide) (fun c_19 => ?_) (fun c_19 => ?_)
                   · first
                     | (exfalso; first | exact absurd c_19 (by decide) | omega)
                     | (refine ri_iload_n h d_Md_at_26 rfl ?_
                        refine ri_if_lt h 44 d_Md_at_27 (by decide) (fun c_27 => ?_) (fun c_27 => ?_)
                        · first
                          | (exfalso; first | exact absurd c_27 (by decide) | omega)
                          | (refine ri_iconstN h 1 d_Md_at_44 rfl ?_
                             refine ri_goto h 49 d_Md_at_45 (by decide) ?_
                             refine ri_pm_code h d_Md_at_49 fl_Md_108 hS (fun M hS => ?_)
                             refine ri_ldcN h 144000 d_Md_at_52 kc_Md_191 rfl ?_
                             refine ri_bipushN h 24 d_Md_at_54 rfl ?_
                             refine ri_iload_n h d_Md_at_56 rfl ?_
                             first | refine ri_imulN h d_Md_at_57 ?_ | refine ri_imul h d_Md_at_57 ?_
                             first | refine ri_iaddN h d_Md_at_58 ?_ | refine ri_iadd h d_Md_at_58 ?_
                             refine ri_iload_n h d_Md_at_59 rfl ?_
                             first | refine ri_iaddN h d_Md_at_60 ?_ | refine ri_iadd h d_Md_at_60 ?_
                             refine ri_istore h d_Md_at_61 (Nat.le_of_ble_eq_true rfl) ?_
                             refine ri_aload_n h d_Md_at_63 rfl ?_
                             refine ri_get h d_Md_at_64 fl_Md_108 (by first | assumption | exact hS.mo | exact gup_s) (by rfl) ?_
                             try dsimp only [MS.code, MS.set_code]
                             first | refine ri_ifN_le h 74 d_Md_at_67 (by decide) (by omega) (fun c_67 => ?_) (fun c_67 => ?_) | refine ri_if_le h 74 d_Md_at_67 (by decide) (fun c_67 => ?_) (fun c_67 => ?_)
                             · first
                               | (exfalso; first | exact absurd c_67 (by decide) | omega)
                               | (omega)
                             · first
                               | (exfalso; first | exact absurd c_67 (by decide) | omega)
                               | (refine ri_lconst h 0 d_Md_at_70 rfl ?_
                                  refine ri_goto h 95 d_Md_at_71 (by decide) ?_
                                  refine ri_lreturn h d_Md_at_95 (Nat.le_of_ble_eq_true rfl) (Nat.le_of_ble_eq_true rfl) ?_
                                  exact ⟨rfl, _, hS, rfl⟩))
                        · first
                          | (exfalso; first | exact absurd c_27 (by decide) | omega)
                          | (refine ri_iload_n h d_Md_at_30 rfl ?_
                             refine ri_aload_n h d_Md_at_31 rfl ?_
                             refine ri_get h d_Md_at_32 fl_Md_73 (by first | assumption | exact hS.mo | exact gup_s) (by rfl) ?_
                             refine ri_sipushN h 6000 d_Md_at_35 rfl ?_
                             refine ri_iload_n h d_Md_at_38 rfl ?_
                             first | refine ri_iaddN h d_Md_at_39 ?_ | refine ri_iadd h d_Md_at_39 ?_
                             refine ri_ialdE h _ d_Md_at_40 (by first | assumption | exact hS.a25) (by first | rfl | assumption) (by first | assumption | omega) (by first | decide | omega) (by first | assumption | exact hm.i25 (by first | assumption | omega) | rfl) ?_
                             refine ri_icmp_lt h 48 d_Md_at_41 (by decide) (fun c_41 => ?_) (fun c_41 => ?_)
                             · first
                               | (exfalso; first | exact absurd c_41 (by decide) | omega)
                               | (exact absurd (by obtain ⟨k, hk, ek⟩ := ix_of (by omega) c_27 c_41; obtain ⟨x, hx, ex⟩ := ix_2 c_14 c_19; exact ⟨i, k, x, hi, rfl, hk, ek, hx, ex⟩) hn)
                             · first
                               | (exfalso; first | exact absurd c_41 (by decide) | omega)
                               | (refine ri_iconstN h 1 d_Md_at_44 rfl ?_
                                  refine ri_goto h 49 d_Md_at_45 (by decide) ?_
                                  refine ri_pm_code h d_Md_at_49 fl_Md_108 hS (fun M hS => ?_)
                                  refine ri_ldcN h 144000 d_Md_at_52 kc_Md_191 rfl ?_
                                  refine ri_bipushN h 24 d_Md_at_54 rfl ?_
                                  refine ri_iload_n h d_Md_at_56 rfl ?_
                                  first | refine ri_imulN h d_Md_at_57 ?_ | refine ri_imul h d_Md_at_57 ?_
                                  first | refine ri_iaddN h d_Md_at_58 ?_ | refine ri_iadd h d_Md_at_58 ?_
                                  refine ri_iload_n h d_Md_at_59 rfl ?_
                                  first | refine ri_iaddN h d_Md_at_60 ?_ | refine ri_iadd h d_Md_at_60 ?_
                                  refine ri_istore h d_Md_at_61 (Nat.le_of_ble_eq_true rfl) ?_
                                  refine ri_aload_n h d_Md_at_63 rfl ?_
                                  refine ri_get h d_Md_at_64 fl_Md_108 (by first | assumption | exact hS.mo | exact gup_s) (by rfl) ?_
                                  try dsimp only [MS.code, MS.set_code]
                                  first | refine ri_ifN_le h 74 d_Md_at_67 (by decide) (by omega) (fun c_67 => ?_) (fun c_67 => ?_) | refine ri_if_le h 74 d_Md_at_67 (by decide) (fun c_67 => ?_) (fun c_67 => ?_)
                                  · first
                                    | (exfalso; first | exact absurd c_67 (by decide) | omega)
                                    | (omega)
                                  · first
                                    | (exfalso; first | exact absurd c_67 (by decide) | omega)
                                    | (refine ri_lconst h 0 d_Md_at_70 rfl ?_
                                       refine ri_goto h 95 d_Md_at_71 (by decide) ?_
                                       refine ri_lreturn h d_Md_at_95 (Nat.le_of_ble_eq_true rfl) (Nat.le_of_ble_eq_true rfl) ?_
                                       exact ⟨rfl, _, hS, rfl⟩))))
                   · first
                     | (exfalso; first | exact absurd c_19 (by decide) | omega)
                     | (refine ri_iconstN h 1 d_Md_at_22 rfl ?_
                        refine ri_goto h 49 d_Md_at_23 (by decide) ?_
                        refine ri_pm_code h d_Md_at_49 fl_Md_108 hS (fun M hS => ?_)
                        refine ri_ldcN h 144000 d_Md_at_52 kc_Md_191 rfl ?_
                        refine ri_bipushN h 24 d_Md_at_54 rfl ?_
                        refine ri_iload_n h d_Md_at_56 rfl ?_
                        first | refine ri_imulN h d_Md_at_57 ?_ | refine ri_imul h d_Md_at_57 ?_
                        first | refine ri_iaddN h d_Md_at_58 ?_ | refine ri_iadd h d_Md_at_58 ?_
                        refine ri_iload_n h d_Md_at_59 rfl ?_
                        first | refine ri_iaddN h d_Md_at_60 ?_ | refine ri_iadd h d_Md_at_60 ?_
                        refine ri_istore h d_Md_at_61 (Nat.le_of_ble_eq_true rfl) ?_
                        refine ri_aload_n h d_Md_at_63 rfl ?_
                        refine ri_get h d_Md_at_64 fl_Md_108 (by first | assumption | exact hS.mo | exact gup_s) (by rfl) ?_
                        try dsimp only [MS.code, MS.set_code]
                        first | refine ri_ifN_le h 74 d_Md_at_67 (by decide) (by omega) (fun c_67 => ?_) (fun c_67 => ?_) | refine ri_if_le h 74 d_Md_at_67 (by decide) (fun c_67 => ?_) (fun c_67 => ?_)
                        · first
                          | (exfalso; first | exact absurd c_67 (by decide) | omega)
                          | (omega)
                        · first
                          | (exfalso; first | exact absurd c_67 (by decide) | omega)
                          | (refine ri_lconst h 0 d_Md_at_70 rfl ?_
                             refine ri_goto h 95 d_Md_at_71 (by decide) ?_
                             refine ri_lreturn h d_Md_at_95 (Nat.le_of_ble_eq_true rfl) (Nat.le_of_ble_eq_true rfl) ?_
                             exact ⟨rfl, _, hS, rfl⟩)))))
  · refine Ct.of h0 (by decide +kernel) rfl fun X hX h => ?_
    obtain ⟨p_, l', e_, R_, s_, m_, ar_, be_, me_, c_⟩ := X
    obtain rfl : l' = l := hX
    refine ri_aload_n h d_Md_at_0 rfl ?_
    refine ri_iload_n h d_Md_at_1 rfl ?_
    refine ri_if_lt h 22 d_Md_at_2 (by decide) (fun c_2 => ?_) (fun c_2 => ?_)
    · first
      | (exfalso; first | exact absurd c_2 (by decide) | omega)
      | (refine ri_iconstN h 1 d_Md_at_22 rfl ?_
         refine ri_goto h 49 d_Md_at_23 (by decide) ?_
         refine ri_pm_code h d_Md_at_49 fl_Md_108 hS (fun M hS => ?_)
         refine ri_ldcN h 144000 d_Md_at_52 kc_Md_191 rfl ?_
         refine ri_bipushN h 24 d_Md_at_54 rfl ?_
         refine ri_iload_n h d_Md_at_56 rfl ?_
         first | refine ri_imulN h d_Md_at_57 ?_ | refine ri_imul h d_Md_at_57 ?_
         first | refine ri_iaddN h d_Md_at_58 ?_ | refine ri_iadd h d_Md_at_58 ?_
         refine ri_iload_n h d_Md_at_59 rfl ?_
         first | refine ri_iaddN h d_Md_at_60 ?_ | refine ri_iadd h d_Md_at_60 ?_
         refine ri_istore h d_Md_at_61 (Nat.le_of_ble_eq_true rfl) ?_
         refine ri_aload_n h d_Md_at_63 rfl ?_
         refine ri_get h d_Md_at_64 fl_Md_108 (by first | assumption | exact hS.mo | exact gup_s) (by rfl) ?_
         try dsimp only [MS.code, MS.set_code]
         first | refine ri_ifN_le h 74 d_Md_at_67 (by decide) (by omega) (fun c_67 => ?_) (fun c_67 => ?_) | refine ri_if_le h 74 d_Md_at_67 (by decide) (fun c_67 => ?_) (fun c_67 => ?_)
         · first
           | (exfalso; first | exact absurd c_67 (by decide) | omega)
           | (omega)
         · first
           | (exfalso; first | exact absurd c_67 (by decide) | omega)
           | (refine ri_lconst h 0 d_Md_at_70 rfl ?_
              refine ri_goto h 95 d_Md_at_71 (by decide) ?_
              refine ri_lreturn h d_Md_at_95 (Nat.le_of_ble_eq_true rfl) (Nat.le_of_ble_eq_true rfl) ?_
              exact ⟨rfl, _, hS, rfl⟩))
    · first
      | (exfalso; first | exact absurd c_2 (by decide) | omega)
      | (refine ri_iload_n h d_Md_at_5 rfl ?_
         refine ri_aload_n h d_Md_at_6 rfl ?_
         refine ri_get h d_Md_at_7 fl_Md_188 (by first | assumption | exact hS.mo | exact gup_s) (by first | exact congrArg (fun x => some (Value.int (nI x))) hm.ha | rfl) ?_
         refine ri_icmp_ge h 22 d_Md_at_10 (by decide) (fun c_10 => ?_) (fun c_10 => ?_)
         · first
           | (exfalso; first | exact absurd c_10 (by decide) | omega)
           | (refine ri_iconstN h 1 d_Md_at_22 rfl ?_
              refine ri_goto h 49 d_Md_at_23 (by decide) ?_
              refine ri_pm_code h d_Md_at_49 fl_Md_108 hS (fun M hS => ?_)
              refine ri_ldcN h 144000 d_Md_at_52 kc_Md_191 rfl ?_
              refine ri_bipushN h 24 d_Md_at_54 rfl ?_
              refine ri_iload_n h d_Md_at_56 rfl ?_
              first | refine ri_imulN h d_Md_at_57 ?_ | refine ri_imul h d_Md_at_57 ?_
              first | refine ri_iaddN h d_Md_at_58 ?_ | refine ri_iadd h d_Md_at_58 ?_
              refine ri_iload_n h d_Md_at_59 rfl ?_
              first | refine ri_iaddN h d_Md_at_60 ?_ | refine ri_iadd h d_Md_at_60 ?_
              refine ri_istore h d_Md_at_61 (Nat.le_of_ble_eq_true rfl) ?_
              refine ri_aload_n h d_Md_at_63 rfl ?_
              refine ri_get h d_Md_at_64 fl_Md_108 (by first | assumption | exact hS.mo | exact gup_s) (by rfl) ?_
              try dsimp only [MS.code, MS.set_code]
              first | refine ri_ifN_le h 74 d_Md_at_67 (by decide) (by omega) (fun c_67 => ?_) (fun c_67 => ?_) | refine ri_if_le h 74 d_Md_at_67 (by decide) (fun c_67 => ?_) (fun c_67 => ?_)
              · first
                | (exfalso; first | exact absurd c_67 (by decide) | omega)
                | (omega)
              · first
                | (exfalso; first | exact absurd c_67 (by decide) | omega)
                | (refine ri_lconst h 0 d_Md_at_70 rfl ?_
                   refine ri_goto h 95 d_Md_at_71 (by decide) ?_
                   refine ri_lreturn h d_Md_at_95 (Nat.le_of_ble_eq_true rfl) (Nat.le_of_ble_eq_true rfl) ?_
                   exact ⟨rfl, _, hS, rfl⟩))
         · first
           | (exfalso; first | exact absurd c_10 (by decide) | omega)
           | (exact absurd (ix_of (by omega) c_2 (Int32.not_le.mp c_10)) hv))
end AT
