/-! array, drop, at: the class; the model's small methods -/
section MB
variable {l : Launch} {D : gD} {s0 : State} {M : gH} {z : Nat} {ad : gA} {Q : CS} {N : MS} {c i : Nat}
theorem k_copies (h0 : g_0 l D s0) {a p : Nat} {r : PlR} (hM : M a = some (plO ad p r)) : Ct l D s0 y_Pl_copies (Cond.code y_Pl_copies b_Pl_copies 1 (some .int)) (rk 0 0 0) [.ref a] M (fR (some (.int (nI (r.cols * r.rows)))) M) := by
  refine Ct.of h0 (by decide +kernel) rfl fun X hX h => ?_
  obtain ⟨p_, l', e_, R_, s_, m_, ar_, be_, me_, c_⟩ := X
  obtain rfl : l' = l := hX
  refine ri_aload_n h d_Pl_copies_0 rfl ?_
  refine ri_get h d_Pl_copies_1 fl_Pl_16 (by first | assumption | exact hS.pl_of (by first | assumption | omega) (by assumption) | exact hS.pl (by first | assumption | omega) | exact gup_s) (by rfl) ?_
  refine ri_aload_n h d_Pl_copies_4 rfl ?_
  refine ri_get h d_Pl_copies_5 fl_Pl_20 (by first | assumption | exact hS.pl_of (by first | assumption | omega) (by assumption) | exact hS.pl (by first | assumption | omega) | exact gup_s) (by rfl) ?_
  first | refine ri_imulN h d_Pl_copies_8 ?_ | refine ri_imul h d_Pl_copies_8 ?_
  refine ri_ireturn h d_Pl_copies_9 (Nat.le_of_ble_eq_true rfl) (Nat.le_of_ble_eq_true rfl) ?_
  exact ⟨rfl, rfl⟩
theorem k_array_ok (h0 : g_0 l D s0) (hS : HS z ad Q N M) (hW : WB Q) {p : Nat} (hp : p < Q.nP) {a b : Nat} (ha : 1 ≤ a ∧ a ≤ 20) (hb : 1 ≤ b ∧ b ≤ 20) {u v : Int64} (hu : nearB u) (hv : nearB v) : Ct l D s0 y_ST_array (Cond.code y_ST_array b_ST_array 9 (some .int)) rkC [.ref (ad 0 0), .int (nI p), .int (nI a), .int (nI b), .long u, .long v] M (fS (some (.int (nI (a * b)))) (HS z ad (Q.set_pl (va_up Q.pl p (((((Q.pl p).set_cols a).set_rows b).set_dx u).set_dy v))) N)) := by
  have hb1 := hW.2.2.1
  refine Ct.of h0 (by decide +kernel) rfl fun X hX h => ?_
  obtain ⟨p_, l', e_, R_, s_, m_, ar_, be_, me_, c_⟩ := X
  obtain rfl : l' = l := hX
  refine ri_iload_n h d_ST_array_0 rfl ?_
  refine ri_ifM_lt h 15 d_ST_array_1 (by decide) (by omega) (fun c_1 => ?_) (fun c_1 => ?_)
  · exact c_1.elim
  · refine ri_iload_n h d_ST_array_4 rfl ?_
    refine ri_aload_n h d_ST_array_5 rfl ?_
    refine ri_get h d_ST_array_6 fl_ST_19 (by first | assumption | exact hS.st | exact gup_s) (by rfl) ?_
    refine ri_cVv_0 (r := (gR7, gT7, 3)) h d_ST_array_9 cv_ST_56 (by first | exact hS.lcO | exact hS.lsO | exact hS.lpO | exact hS.cesO (by first | assumption | omega) | exact hS.cepO (by first | assumption | omega) | exact ⟨_, (by first | assumption | exact hS.st | exact hS.mo | exact hS.out | exact hS.sb | exact hS.ce (by first | assumption | omega) | exact hS.ceb (by first | assumption | omega) | exact hS.sh (by first | assumption | omega) | exact hS.shb (by first | assumption | omega) | exact hS.pl (by first | assumption | omega) | exact hS.plb (by first | assumption | omega) | exact hS.fl (by first | assumption | omega) | exact gup_s | (refine gup_t (by assumption) ?_; first | assumption | exact gup_s | (refine gup_t (by assumption) ?_; first | assumption | exact gup_s | (refine gup_t (by assumption) ?_; first | assumption | exact gup_s))))⟩) rfl (by first | exact k_size_lc h0 hS | exact k_size_ls h0 hS | exact k_size_lp h0 hS | exact k_size_ces h0 hS (by first | assumption | omega) | exact k_size_cep h0 hS (by first | assumption | omega) | exact k_size_ces_of h0 hS (by first | assumption | omega) (by assumption) | exact k_size_cep_of h0 hS (by first | assumption | omega) (by assumption)) (by exact Nat.le_of_ble_eq_true rfl) (by exact Nat.le_of_ble_eq_true rfl) (by exact Nat.le_of_ble_eq_true rfl) (by exact Nat.le_of_ble_eq_true rfl) (by exact Nat.le_of_ble_eq_true rfl) ?_
    first | refine ri_icmpN_lt h 25 d_ST_array_12 (by decide) (by omega) (by omega) (fun c_12 => ?_) (fun c_12 => ?_) | refine ri_icmp_lt h 25 d_ST_array_12 (by decide) (fun c_12 => ?_) (fun c_12 => ?_)
    · refine ri_iload_n h d_ST_array_25 rfl ?_
      refine ri_iconstN h 1 d_ST_array_26 rfl ?_
      first | refine ri_icmpN_lt h 47 d_ST_array_27 (by decide) (by omega) (by omega) (fun c_27 => ?_) (fun c_27 => ?_) | refine ri_icmp_lt h 47 d_ST_array_27 (by decide) (fun c_27 => ?_) (fun c_27 => ?_)
      · omega
      · refine ri_iload_n h d_ST_array_30 rfl ?_
        refine ri_bipushN h 20 d_ST_array_31 rfl ?_
        first | refine ri_icmpN_gt h 47 d_ST_array_33 (by decide) (by omega) (by omega) (fun c_33 => ?_) (fun c_33 => ?_) | refine ri_icmp_gt h 47 d_ST_array_33 (by decide) (fun c_33 => ?_) (fun c_33 => ?_)
        · omega
        · refine ri_iload_n h d_ST_array_36 rfl ?_
          refine ri_iconstN h 1 d_ST_array_37 rfl ?_
          first | refine ri_icmpN_lt h 47 d_ST_array_38 (by decide) (by omega) (by omega) (fun c_38 => ?_) (fun c_38 => ?_) | refine ri_icmp_lt h 47 d_ST_array_38 (by decide) (fun c_38 => ?_) (fun c_38 => ?_)
          · omega
          · refine ri_iload_n h d_ST_array_41 rfl ?_
            refine ri_bipushN h 20 d_ST_array_42 rfl ?_
            first | refine ri_icmpN_le h 57 d_ST_array_44 (by decide) (by omega) (by omega) (fun c_44 => ?_) (fun c_44 => ?_) | refine ri_icmp_le h 57 d_ST_array_44 (by decide) (fun c_44 => ?_) (fun c_44 => ?_)
            · refine ri_lload h d_ST_array_57 rfl ?_
              refine ri_cS0_1 h d_ST_array_59 cs_ST_115 (k_near_ok h0 (by assumption)) (Nat.le_of_ble_eq_true rfl) (Nat.le_of_ble_eq_true rfl) (Nat.le_of_ble_eq_true rfl) (Nat.le_of_ble_eq_true rfl) (Nat.le_of_ble_eq_true rfl) ?_
              refine ri_lload h d_ST_array_62 rfl ?_
              refine ri_cS0_1 h d_ST_array_64 cs_ST_115 (k_near_ok h0 (by assumption)) (Nat.le_of_ble_eq_true rfl) (Nat.le_of_ble_eq_true rfl) (Nat.le_of_ble_eq_true rfl) (Nat.le_of_ble_eq_true rfl) (Nat.le_of_ble_eq_true rfl) ?_
              refine ri_aload_n h d_ST_array_67 rfl ?_
              refine ri_get h d_ST_array_68 fl_ST_19 (by first | assumption | exact hS.st | exact gup_s) (by rfl) ?_
              refine ri_iload_n h d_ST_array_71 rfl ?_
              refine ri_cVv_1 (r := (gR7, gT7, 3)) h d_ST_array_72 cv_ST_138 (by first | exact hS.lcO | exact hS.lsO | exact hS.lpO | exact hS.cesO (by first | assumption | omega) | exact hS.cepO (by first | assumption | omega) | exact ⟨_, (by first | assumption | exact hS.st | exact hS.mo | exact hS.out | exact hS.sb | exact hS.ce (by first | assumption | omega) | exact hS.ceb (by first | assumption | omega) | exact hS.sh (by first | assumption | omega) | exact hS.shb (by first | assumption | omega) | exact hS.pl (by first | assumption | omega) | exact hS.plb (by first | assumption | omega) | exact hS.fl (by first | assumption | omega) | exact gup_s | (refine gup_t (by assumption) ?_; first | assumption | exact gup_s | (refine gup_t (by assumption) ?_; first | assumption | exact gup_s | (refine gup_t (by assumption) ?_; first | assumption | exact gup_s))))⟩) rfl (by first | exact k_get_lc h0 hS hW (by first | assumption | omega) | exact k_get_ls h0 hS hW (by first | assumption | omega) | exact k_get_lp h0 hS hW (by first | assumption | omega) | exact k_get_ces h0 hS hW (by first | assumption | omega) (by first | assumption | omega) | exact k_get_cep h0 hS hW (by first | assumption | omega) (by first | assumption | omega)) (by exact Nat.le_of_ble_eq_true rfl) (by exact Nat.le_of_ble_eq_true rfl) (by exact Nat.le_of_ble_eq_true rfl) (by exact Nat.le_of_ble_eq_true rfl) (by exact Nat.le_of_ble_eq_true rfl) ?_
              refine ri_cast (r := (gR3, gT3, 9)) h d_ST_array_75 (by first | assumption | exact hS.st | exact hS.mo | exact hS.out | exact hS.sb | exact hS.ce (by first | assumption | omega) | exact hS.ceb (by first | assumption | omega) | exact hS.sh (by first | assumption | omega) | exact hS.shb (by first | assumption | omega) | exact hS.pl (by first | assumption | omega) | exact hS.plb (by first | assumption | omega) | exact hS.fl (by first | assumption | omega) | exact gup_s | (refine gup_t (by assumption) ?_; first | assumption | exact gup_s | (refine gup_t (by assumption) ?_; first | assumption | exact gup_s | (refine gup_t (by assumption) ?_; first | assumption | exact gup_s)))) rfl (by decide +kernel) (by decide +kernel) ?_
              refine ri_astore h d_ST_array_78 (Nat.le_of_ble_eq_true rfl) ?_
              refine ri_aload h d_ST_array_80 rfl ?_
              refine ri_iload_n h d_ST_array_82 rfl ?_
              refine ri_p_cols h d_ST_array_83 fl_ST_142 hS (by first | assumption | omega) (by first | assumption | rfl) (fun M hS h_pl => ?_)
              refine ri_aload h d_ST_array_86 rfl ?_
              refine ri_iload_n h d_ST_array_88 rfl ?_
              refine ri_p_rows h d_ST_array_89 fl_ST_145 hS (by first | assumption | omega) (by first | assumption | rfl) (fun M hS h_pl => ?_)
              refine ri_aload h d_ST_array_92 rfl ?_
              refine ri_lload h d_ST_array_94 rfl ?_
              refine ri_p_dx h d_ST_array_96 fl_ST_148 hS (by first | assumption | omega) (by first | assumption | rfl) (fun M hS h_pl => ?_)
              refine ri_aload h d_ST_array_99 rfl ?_
              refine ri_lload h d_ST_array_101 rfl ?_
              refine ri_p_dy h d_ST_array_103 fl_ST_152 hS (by first | assumption | omega) (by first | assumption | rfl) (fun M hS h_pl => ?_)
              refine ri_aload h d_ST_array_106 rfl ?_
              refine ri_cVv_0 (r := (gR3, gT3, 9)) h d_ST_array_108 cv_ST_155 (by first | exact hS.lcO | exact hS.lsO | exact hS.lpO | exact hS.cesO (by first | assumption | omega) | exact hS.cepO (by first | assumption | omega) | exact ⟨_, (by first | assumption | exact hS.st | exact hS.mo | exact hS.out | exact hS.sb | exact hS.ce (by first | assumption | omega) | exact hS.ceb (by first | assumption | omega) | exact hS.sh (by first | assumption | omega) | exact hS.shb (by first | assumption | omega) | exact hS.pl (by first | assumption | omega) | exact hS.plb (by first | assumption | omega) | exact hS.fl (by first | assumption | omega) | exact gup_s | (refine gup_t (by assumption) ?_; first | assumption | exact gup_s | (refine gup_t (by assumption) ?_; first | assumption | exact gup_s | (refine gup_t (by assumption) ?_; first | assumption | exact gup_s))))⟩) rfl (by first | exact k_copies h0 (hS.pl_of (by first | assumption | omega) (by assumption)) | exact k_copies h0 (hS.pl (by first | assumption | omega))) (by exact Nat.le_of_ble_eq_true rfl) (by exact Nat.le_of_ble_eq_true rfl) (by exact Nat.le_of_ble_eq_true rfl) (by exact Nat.le_of_ble_eq_true rfl) (by exact Nat.le_of_ble_eq_true rfl) ?_
              refine ri_ireturn h d_ST_array_111 (Nat.le_of_ble_eq_true rfl) (Nat.le_of_ble_eq_true rfl) ?_
              exact ⟨rfl, hS.pl2.pl2.pl2⟩
            · omega
    · omega
theorem k_array_no1 (h0 : g_0 l D s0) (hS : HS z ad Q N M) (hW : WB Q) {p : Int32} (hp : ¬ ∃ c, c < Q.nP ∧ p = nI c) {a b : Int32} {u v : Int64} : Ct l D s0 y_ST_array (Cond.code y_ST_array b_ST_array 9 (some .int)) rkC [.ref (ad 0 0), .int p, .int a, .int b, .long u, .long v] M (fE eIO M) := by
  have hb1 := hW.2.2.1
  refine Ct.of h0 (by decide +kernel) rfl fun X hX h => ?_
  obtain ⟨p_, l', e_, R_, s_, m_, ar_, be_, me_, c_⟩ := X
  obtain rfl : l' = l := hX
  refine ri_iload_n h d_ST_array_0 rfl ?_
  refine ri_if_lt h 15 d_ST_array_1 (by decide) (fun c_1 => ?_) (fun c_1 => ?_)
  · refine ri_throw h tw_133 d_ST_array_15 d_ST_array_18 d_ST_array_19 d_ST_array_21 d_ST_array_24 (Nat.le_of_ble_eq_true rfl) (Nat.le_of_ble_eq_true rfl) (Nat.le_of_ble_eq_true rfl) (Nat.le_of_ble_eq_true rfl) ?_
    exact ⟨rfl, rfl⟩
  · refine ri_iload_n h d_ST_array_4 rfl ?_
    refine ri_aload_n h d_ST_array_5 rfl ?_
    refine ri_get h d_ST_array_6 fl_ST_19 (by first | assumption | exact hS.st | exact gup_s) (by rfl) ?_
    refine ri_cVv_0 (r := (gR7, gT7, 3)) h d_ST_array_9 cv_ST_56 (by first | exact hS.lcO | exact hS.lsO | exact hS.lpO | exact hS.cesO (by first | assumption | omega) | exact hS.cepO (by first | assumption | omega) | exact ⟨_, (by first | assumption | exact hS.st | exact hS.mo | exact hS.out | exact hS.sb | exact hS.ce (by first | assumption | omega) | exact hS.ceb (by first | assumption | omega) | exact hS.sh (by first | assumption | omega) | exact hS.shb (by first | assumption | omega) | exact hS.pl (by first | assumption | omega) | exact hS.plb (by first | assumption | omega) | exact hS.fl (by first | assumption | omega) | exact gup_s | (refine gup_t (by assumption) ?_; first | assumption | exact gup_s | (refine gup_t (by assumption) ?_; first | assumption | exact gup_s | (refine gup_t (by assumption) ?_; first | assumption | exact gup_s))))⟩) rfl (by first | exact k_size_lc h0 hS | exact k_size_ls h0 hS | exact k_size_lp h0 hS | exact k_size_ces h0 hS (by first | assumption | omega) | exact k_size_cep h0 hS (by first | assumption | omega) | exact k_size_ces_of h0 hS (by first | assumption | omega) (by assumption) | exact k_size_cep_of h0 hS (by first | assumption | omega) (by assumption)) (by exact Nat.le_of_ble_eq_true rfl) (by exact Nat.le_of_ble_eq_true rfl) (by exact Nat.le_of_ble_eq_true rfl) (by exact Nat.le_of_ble_eq_true rfl) (by exact Nat.le_of_ble_eq_true rfl) ?_
    refine ri_icmp_lt h 25 d_ST_array_12 (by decide) (fun c_12 => ?_) (fun c_12 => ?_)
    · exact absurd (ix_of (by omega) c_1 c_12) hp
    · refine ri_throw h tw_133 d_ST_array_15 d_ST_array_18 d_ST_array_19 d_ST_array_21 d_ST_array_24 (Nat.le_of_ble_eq_true rfl) (Nat.le_of_ble_eq_true rfl) (Nat.le_of_ble_eq_true rfl) (Nat.le_of_ble_eq_true rfl) ?_
      exact ⟨rfl, rfl⟩
theorem k_array_no2 (h0 : g_0 l D s0) (hS : HS z ad Q N M) (hW : WB Q) {p : Nat} (hp : p < Q.nP) {a b : Int32} {u v : Int64} (hn : ¬ (¬ a < 1 ∧ ¬ 20 < a ∧ ¬ b < 1 ∧ b ≤ 20 ∧ nearB u ∧ nearB v)) : Ct l D s0 y_ST_array (Cond.code y_ST_array b_ST_array 9 (some .int)) rkC [.ref (ad 0 0), .int (nI p), .int a, .int b, .long u, .long v] M (fE eIA M) := by
  have hb1 := hW.2.2.1
  refine Ct.of h0 (by decide +kernel) rfl fun X hX h => ?_
  obtain ⟨p_, l', e_, R_, s_, m_, ar_, be_, me_, c_⟩ := X
  obtain rfl : l' = l := hX
  refine ri_iload_n h d_ST_array_0 rfl ?_
  refine ri_if_lt h 15 d_ST_array_1 (by decide) (fun c_1 => ?_) (fun c_1 => ?_)
  · exact absurd c_1 (by first | exact nI_pos (by omega) | exact fun h => h (nI_lt hp (by omega)))
  · refine ri_iload_n h d_ST_array_4 rfl ?_
    refine ri_aload_n h d_ST_array_5 rfl ?_
    refine ri_get h d_ST_array_6 fl_ST_19 (by first | assumption | exact hS.st | exact gup_s) (by rfl) ?_
    refine ri_cVv_0 (r := (gR7, gT7, 3)) h d_ST_array_9 cv_ST_56 (by first | exact hS.lcO | exact hS.lsO | exact hS.lpO | exact hS.cesO (by first | assumption | omega) | exact hS.cepO (by first | assumption | omega) | exact ⟨_, (by first | assumption | exact hS.st | exact hS.mo | exact hS.out | exact hS.sb | exact hS.ce (by first | assumption | omega) | exact hS.ceb (by first | assumption | omega) | exact hS.sh (by first | assumption | omega) | exact hS.shb (by first | assumption | omega) | exact hS.pl (by first | assumption | omega) | exact hS.plb (by first | assumption | omega) | exact hS.fl (by first | assumption | omega) | exact gup_s | (refine gup_t (by assumption) ?_; first | assumption | exact gup_s | (refine gup_t (by assumption) ?_; first | assumption | exact gup_s | (refine gup_t (by assumption) ?_; first | assumption | exact gup_s))))⟩) rfl (by first | exact k_size_lc h0 hS | exact k_size_ls h0 hS | exact k_size_lp h0 hS | exact k_size_ces h0 hS (by first | assumption | omega) | exact k_size_cep h0 hS (by first | assumption | omega) | exact k_size_ces_of h0 hS (by first | assumption | omega) (by assumption) | exact k_size_cep_of h0 hS (by first | assumption | omega) (by assumption)) (by exact Nat.le_of_ble_eq_true rfl) (by exact Nat.le_of_ble_eq_true rfl) (by exact Nat.le_of_ble_eq_true rfl) (by exact Nat.le_of_ble_eq_true rfl) (by exact Nat.le_of_ble_eq_true rfl) ?_
    refine ri_icmp_lt h 25 d_ST_array_12 (by decide) (fun c_12 => ?_) (fun c_12 => ?_)
    · refine ri_iload_n h d_ST_array_25 rfl ?_
      refine ri_iconst h 1 d_ST_array_26 rfl ?_
      refine ri_icmp_lt h 47 d_ST_array_27 (by decide) (fun c_27 => ?_) (fun c_27 => ?_)
      · refine ri_throw h tw_136 d_ST_array_47 d_ST_array_50 d_ST_array_51 d_ST_array_53 d_ST_array_56 (Nat.le_of_ble_eq_true rfl) (Nat.le_of_ble_eq_true rfl) (Nat.le_of_ble_eq_true rfl) (Nat.le_of_ble_eq_true rfl) ?_
        exact ⟨rfl, rfl⟩
      · refine ri_iload_n h d_ST_array_30 rfl ?_
        refine ri_bipush h 20 d_ST_array_31 rfl ?_
        refine ri_icmp_gt h 47 d_ST_array_33 (by decide) (fun c_33 => ?_) (fun c_33 => ?_)
        · refine ri_throw h tw_136 d_ST_array_47 d_ST_array_50 d_ST_array_51 d_ST_array_53 d_ST_array_56 (Nat.le_of_ble_eq_true rfl) (Nat.le_of_ble_eq_true rfl) (Nat.le_of_ble_eq_true rfl) (Nat.le_of_ble_eq_true rfl) ?_
          exact ⟨rfl, rfl⟩
        · refine ri_iload_n h d_ST_array_36 rfl ?_
          refine ri_iconst h 1 d_ST_array_37 rfl ?_
          refine ri_icmp_lt h 47 d_ST_array_38 (by decide) (fun c_38 => ?_) (fun c_38 => ?_)
          · refine ri_throw h tw_136 d_ST_array_47 d_ST_array_50 d_ST_array_51 d_ST_array_53 d_ST_array_56 (Nat.le_of_ble_eq_true rfl) (Nat.le_of_ble_eq_true rfl) (Nat.le_of_ble_eq_true rfl) (Nat.le_of_ble_eq_true rfl) ?_
            exact ⟨rfl, rfl⟩
          · refine ri_iload_n h d_ST_array_41 rfl ?_
            refine ri_bipush h 20 d_ST_array_42 rfl ?_
            refine ri_icmp_le h 57 d_ST_array_44 (by decide) (fun c_44 => ?_) (fun c_44 => ?_)
            · by_cases hu : nearB u
              · refine ri_lload h d_ST_array_57 rfl ?_
                refine ri_cS0_1 h d_ST_array_59 cs_ST_115 (k_near_ok h0 (by assumption)) (Nat.le_of_ble_eq_true rfl) (Nat.le_of_ble_eq_true rfl) (Nat.le_of_ble_eq_true rfl) (Nat.le_of_ble_eq_true rfl) (Nat.le_of_ble_eq_true rfl) ?_
                refine ri_lload h d_ST_array_62 rfl ?_
                refine ri_eS_1 h d_ST_array_64 cs_ST_115 (k_near_no h0 (fun hv => hn ⟨c_27, c_33, c_38, c_44, hu, hv⟩)) (Nat.le_of_ble_eq_true rfl) (Nat.le_of_ble_eq_true rfl) (Nat.le_of_ble_eq_true rfl) (Nat.le_of_ble_eq_true rfl) (Nat.le_of_ble_eq_true rfl) ?_
                exact ⟨rfl, rfl⟩
              · refine ri_lload h d_ST_array_57 rfl ?_
                refine ri_eS_1 h d_ST_array_59 cs_ST_115 (k_near_no h0 hu) (Nat.le_of_ble_eq_true rfl) (Nat.le_of_ble_eq_true rfl) (Nat.le_of_ble_eq_true rfl) (Nat.le_of_ble_eq_true rfl) (Nat.le_of_ble_eq_true rfl) ?_
                exact ⟨rfl, rfl⟩
            · refine ri_throw h tw_136 d_ST_array_47 d_ST_array_50 d_ST_array_51 d_ST_array_53 d_ST_array_56 (Nat.le_of_ble_eq_true rfl) (Nat.le_of_ble_eq_true rfl) (Nat.le_of_ble_eq_true rfl) (Nat.le_of_ble_eq_true rfl) ?_
              exact ⟨rfl, rfl⟩
    · exact absurd c_12 (by first | exact nI_pos (by omega) | exact fun h => h (nI_lt hp (by omega)))
theorem k_drop_ok (h0 : g_0 l D s0) (hS : HS z ad Q N M) (hW : WB Q) {s : Nat} (hs : s < Q.nS) (hd : (Q.sh s).drop = 0) : Ct l D s0 y_ST_drop (Cond.code y_ST_drop b_ST_drop 4 (some .boolean)) rkC [.ref (ad 0 0), .int (nI s)] M (fS (some (.int 1)) (HS z ad (Q.set_sh (va_up Q.sh s ((Q.sh s).set_drop 1))) N)) := by
  refine Ct.of h0 (by decide +kernel) rfl fun X hX h => ?_
  obtain ⟨p_, l', e_, R_, s_, m_, ar_, be_, me_, c_⟩ := X
  obtain rfl : l' = l := hX
  refine ri_aload_n h d_ST_drop_0 rfl ?_
  refine ri_iload_n h d_ST_drop_1 rfl ?_
  refine ri_cVv_1 (r := (gR5, gT5, 8)) h d_ST_drop_2 cv_ST_236 (by first | exact hS.lcO | exact hS.lsO | exact hS.lpO | exact hS.cesO (by first | assumption | omega) | exact hS.cepO (by first | assumption | omega) | exact ⟨_, (by first | assumption | exact hS.st | exact hS.mo | exact hS.out | exact hS.sb | exact hS.ce (by first | assumption | omega) | exact hS.ceb (by first | assumption | omega) | exact hS.sh (by first | assumption | omega) | exact hS.shb (by first | assumption | omega) | exact hS.pl (by first | assumption | omega) | exact hS.plb (by first | assumption | omega) | exact hS.fl (by first | assumption | omega) | exact gup_s | (refine gup_t (by assumption) ?_; first | assumption | exact gup_s | (refine gup_t (by assumption) ?_; first | assumption | exact gup_s | (refine gup_t (by assumption) ?_; first | assumption | exact gup_s))))⟩) rfl (k_knownS_ok h0 hS hW hs) (Nat.le_of_ble_eq_true rfl) (Nat.le_of_ble_eq_true rfl) (Nat.le_of_ble_eq_true rfl) (Nat.le_of_ble_eq_true rfl) (Nat.le_of_ble_eq_true rfl) ?_
  refine ri_astore_n h d_ST_drop_5 (Nat.le_of_ble_eq_true rfl) ?_
  refine ri_aload_n h d_ST_drop_6 rfl ?_
  refine ri_get h d_ST_drop_7 fl_ST_240 (by first | assumption | exact hS.sh_of (by first | assumption | omega) (by assumption) | exact hS.sh (by first | assumption | omega) | exact gup_s) (by rfl) ?_
  refine ri_if_ne h 17 d_ST_drop_10 (by decide) (fun c_10 => ?_) (fun c_10 => ?_)
  · exact absurd hd c_10
  · refine ri_iconst h 1 d_ST_drop_13 rfl ?_
    refine ri_goto h 18 d_ST_drop_14 (by decide) ?_
    refine ri_istore_n h d_ST_drop_18 (Nat.le_of_ble_eq_true rfl) ?_
    refine ri_aload_n h d_ST_drop_19 rfl ?_
    refine ri_iconst h 1 d_ST_drop_20 rfl ?_
    refine ri_p_drop h d_ST_drop_21 fl_ST_240 hS (by first | assumption | omega) (by first | assumption | rfl) (by first | exact Or.inl rfl | exact Or.inr rfl | assumption) (fun M hS h_sh => ?_)
    refine ri_iload_n h d_ST_drop_24 rfl ?_
    refine ri_zreturn h d_ST_drop_25 (Nat.le_of_ble_eq_true rfl) (Nat.le_of_ble_eq_true rfl) (by first | rfl | assumption) ?_
    exact ⟨rfl, hS⟩
theorem k_drop_ok2 (h0 : g_0 l D s0) (hS : HS z ad Q N M) (hW : WB Q) {s : Nat} (hs : s < Q.nS) (hd : (Q.sh s).drop = 1) : Ct l D s0 y_ST_drop (Cond.code y_ST_drop b_ST_drop 4 (some .boolean)) rkC [.ref (ad 0 0), .int (nI s)] M (fS (some (.int 0)) (HS z ad Q N)) := by
  refine Ct.of h0 (by decide +kernel) rfl fun X hX h => ?_
  obtain ⟨p_, l', e_, R_, s_, m_, ar_, be_, me_, c_⟩ := X
  obtain rfl : l' = l := hX
  refine ri_aload_n h d_ST_drop_0 rfl ?_
  refine ri_iload_n h d_ST_drop_1 rfl ?_
  refine ri_cVv_1 (r := (gR5, gT5, 8)) h d_ST_drop_2 cv_ST_236 (by first | exact hS.lcO | exact hS.lsO | exact hS.lpO | exact hS.cesO (by first | assumption | omega) | exact hS.cepO (by first | assumption | omega) | exact ⟨_, (by first | assumption | exact hS.st | exact hS.mo | exact hS.out | exact hS.sb | exact hS.ce (by first | assumption | omega) | exact hS.ceb (by first | assumption | omega) | exact hS.sh (by first | assumption | omega) | exact hS.shb (by first | assumption | omega) | exact hS.pl (by first | assumption | omega) | exact hS.plb (by first | assumption | omega) | exact hS.fl (by first | assumption | omega) | exact gup_s | (refine gup_t (by assumption) ?_; first | assumption | exact gup_s | (refine gup_t (by assumption) ?_; first | assumption | exact gup_s | (refine gup_t (by assumption) ?_; first | assumption | exact gup_s))))⟩) rfl (k_knownS_ok h0 hS hW hs) (Nat.le_of_ble_eq_true rfl) (Nat.le_of_ble_eq_true rfl) (Nat.le_of_ble_eq_true rfl) (Nat.le_of_ble_eq_true rfl) (Nat.le_of_ble_eq_true rfl) ?_
  have hd0 : ¬ (Q.sh s).drop = 0 := by rw [hd]; decide
  have e : va_up Q.sh s ((Q.sh s).set_drop 1) = Q.sh := by
    have : (Q.sh s).set_drop 1 = Q.sh s := by
      have : (Q.sh s).set_drop (Q.sh s).drop = Q.sh s := rfl
      rwa [hd] at this
    rw [this]
    exact va_up_id
  refine ri_astore_n h d_ST_drop_5 (Nat.le_of_ble_eq_true rfl) ?_
  refine ri_aload_n h d_ST_drop_6 rfl ?_
  refine ri_get h d_ST_drop_7 fl_ST_240 (by first | assumption | exact hS.sh_of (by first | assumption | omega) (by assumption) | exact hS.sh (by first | assumption | omega) | exact gup_s) (by rfl) ?_
  refine ri_if_ne h 17 d_ST_drop_10 (by decide) (fun c_10 => ?_) (fun c_10 => ?_)
  · refine ri_iconst h 0 d_ST_drop_17 rfl ?_
    refine ri_istore_n h d_ST_drop_18 (Nat.le_of_ble_eq_true rfl) ?_
    refine ri_aload_n h d_ST_drop_19 rfl ?_
    refine ri_iconst h 1 d_ST_drop_20 rfl ?_
    refine ri_p_drop h d_ST_drop_21 fl_ST_240 hS (by first | assumption | omega) (by first | assumption | rfl) (by first | exact Or.inl rfl | exact Or.inr rfl | assumption) (fun M hS h_sh => ?_)
    refine ri_iload_n h d_ST_drop_24 rfl ?_
    refine ri_zreturn h d_ST_drop_25 (Nat.le_of_ble_eq_true rfl) (Nat.le_of_ble_eq_true rfl) (by first | rfl | assumption) ?_
    exact ⟨rfl, hS.cong (congrArg (fun f => Q.set_sh f) e) rfl⟩
  · exact absurd c_10 hd0
theorem k_drop_no (h0 : g_0 l D s0) (hS : HS z ad Q N M) (hW : WB Q) {p : Int32} (hp : ¬ ∃ c, c < Q.nS ∧ p = nI c) : Ct l D s0 y_ST_drop (Cond.code y_ST_drop b_ST_drop 4 (some .boolean)) rkC [.ref (ad 0 0), .int p] M (fE eIO M) := by
  refine Ct.of h0 (by decide +kernel) rfl fun X hX h => ?_
  obtain ⟨p_, l', e_, R_, s_, m_, ar_, be_, me_, c_⟩ := X
  obtain rfl : l' = l := hX
  refine ri_aload_n h d_ST_drop_0 rfl ?_
  refine ri_iload_n h d_ST_drop_1 rfl ?_
  refine ri_eV_1 (r := (gR5, gT5, 8)) h d_ST_drop_2 cv_ST_236 (by first | exact hS.lcO | exact hS.lsO | exact hS.lpO | exact hS.cesO (by first | assumption | omega) | exact hS.cepO (by first | assumption | omega) | exact ⟨_, (by first | assumption | exact hS.st | exact hS.mo | exact hS.out | exact hS.sb | exact hS.ce (by first | assumption | omega) | exact hS.ceb (by first | assumption | omega) | exact hS.sh (by first | assumption | omega) | exact hS.shb (by first | assumption | omega) | exact hS.pl (by first | assumption | omega) | exact hS.plb (by first | assumption | omega) | exact hS.fl (by first | assumption | omega) | exact gup_s | (refine gup_t (by assumption) ?_; first | assumption | exact gup_s | (refine gup_t (by assumption) ?_; first | assumption | exact gup_s | (refine gup_t (by assumption) ?_; first | assumption | exact gup_s))))⟩) rfl (k_knownS_no h0 hS hW hp) (Nat.le_of_ble_eq_true rfl) (Nat.le_of_ble_eq_true rfl) (Nat.le_of_ble_eq_true rfl) (Nat.le_of_ble_eq_true rfl) (Nat.le_of_ble_eq_true rfl) ?_
  exact ⟨rfl, rfl⟩
/-- the shape of a flat one; its corners -/
abbrev FlR.s (r : FlR) (i : Nat) : Nat := (r.sh i).getD 0
def FX (sh : Nat → ShR) (r : FlR) (i k : Nat) : Int64 := r.xs i + tX (r.tu i) ((sh (r.s i)).xs k) ((sh (r.s i)).ys k)
def FY (sh : Nat → ShR) (r : FlR) (i k : Nat) : Int64 := r.ys i + tY (r.tu i) ((sh (r.s i)).xs k) ((sh (r.s i)).ys k)
/-- shapes laid flat are shapes -/
def WFl (nS : Nat) (sh : Nat → ShR) (r : FlR) : Prop := r.cnt ≤ 3000 ∧ ∀ i, i < r.cnt → r.sh i = some (r.s i) ∧ r.s i < nS ∧ r.cor i ≤ (sh (r.s i)).cnt ∧ r.tu i < 8
theorem k_cornerX (h0 : g_0 l D s0) (hS : HS z ad Q N M) {j : Nat} (hj : j < 3) (hF : WFl Q.nS Q.sh (Q.fl j)) (hi : i < (Q.fl j).cnt) {k : Nat} (hk : k < 24) : Ct l D s0 y_Fl_cornerX (Cond.code y_Fl_cornerX b_Fl_cornerX 3 (some .long)) (rk 1 0 0) [.ref (ad 3 j), .int (nI i), .int (nI k)] M (fR (some (.long (FX Q.sh (Q.fl j) i k))) M) := by
  obtain ⟨hc, hF⟩ := hF
  obtain ⟨f1, f2, f3, f4⟩ := hF i hi
  have hi3 : i < 3000 := Nat.lt_of_lt_of_le hi hc
  refine Ct.of h0 (by decide +kernel) rfl fun X hX h => ?_
  obtain ⟨p_, l', e_, R_, s_, m_, ar_, be_, me_, c_⟩ := X
  obtain rfl : l' = l := hX
  refine ri_aload_n h d_Fl_cornerX_0 rfl ?_
  refine ri_get h d_Fl_cornerX_1 fl_Fl_24 (by first | assumption | exact hS.fl_of (by first | assumption | omega) (by assumption) | exact hS.fl (by first | assumption | omega) | exact gup_s) (by rfl) ?_
  refine ri_iload_n h d_Fl_cornerX_4 rfl ?_
  refine ri_lald h _ d_Fl_cornerX_5 (by first | assumption | exact hS.flx_of (by first | assumption | omega) (by assumption) | exact hS.flx (by first | assumption | omega)) (by first | rfl | assumption) (by first | assumption | omega) (by first | decide | omega) ?_
  refine ri_aload_n h d_Fl_cornerX_6 rfl ?_
  refine ri_get h d_Fl_cornerX_7 fl_Fl_21 (by first | assumption | exact hS.fl_of (by first | assumption | omega) (by assumption) | exact hS.fl (by first | assumption | omega) | exact gup_s) (by rfl) ?_
  refine ri_iload_n h d_Fl_cornerX_10 rfl ?_
  refine ri_iald h _ d_Fl_cornerX_11 (by first | assumption | exact hS.flt_of (by first | assumption | omega) (by assumption) | exact hS.flt (by first | assumption | omega)) (by first | rfl | assumption) (by first | assumption | omega) (by first | decide | omega) ?_
  refine ri_aload_n h d_Fl_cornerX_12 rfl ?_
  refine ri_get h d_Fl_cornerX_13 fl_Fl_11 (by first | assumption | exact hS.fl_of (by first | assumption | omega) (by assumption) | exact hS.fl (by first | assumption | omega) | exact gup_s) (by rfl) ?_
  refine ri_iload_n h d_Fl_cornerX_16 rfl ?_
  refine ri_aald h 4 _ d_Fl_cornerX_17 (Or.inr rfl) (by first | assumption | exact hS.fls_of (by first | assumption | omega) (by assumption) | exact hS.fls (by first | assumption | omega)) (by first | rfl | assumption) (by first | assumption | omega) (by first | decide | omega) (by first | assumption | exact congrArg (Option.map (ad 18)) (by assumption)) ?_
  refine ri_get h d_Fl_cornerX_18 fl_Fl_120 (by first | assumption | exact hS.sh_of (by first | assumption | omega) (by assumption) | exact hS.sh (by first | assumption | omega) | exact gup_s) (by rfl) ?_
  refine ri_iload_n h d_Fl_cornerX_21 rfl ?_
  refine ri_lald h _ d_Fl_cornerX_22 (by first | assumption | exact hS.shx_of (by first | assumption | omega) (by assumption) | exact hS.shx (by first | assumption | omega)) (by first | rfl | assumption) (by first | assumption | omega) (by first | decide | omega) ?_
  refine ri_aload_n h d_Fl_cornerX_23 rfl ?_
  refine ri_get h d_Fl_cornerX_24 fl_Fl_11 (by first | assumption | exact hS.fl_of (by first | assumption | omega) (by assumption) | exact hS.fl (by first | assumption | omega) | exact gup_s) (by rfl) ?_
  refine ri_iload_n h d_Fl_cornerX_27 rfl ?_
  refine ri_aald h 4 _ d_Fl_cornerX_28 (Or.inr rfl) (by first | assumption | exact hS.fls_of (by first | assumption | omega) (by assumption) | exact hS.fls (by first | assumption | omega)) (by first | rfl | assumption) (by first | assumption | omega) (by first | decide | omega) (by first | assumption | exact congrArg (Option.map (ad 18)) (by assumption)) ?_
  refine ri_get h d_Fl_cornerX_29 fl_Fl_121 (by first | assumption | exact hS.sh_of (by first | assumption | omega) (by assumption) | exact hS.sh (by first | assumption | omega) | exact gup_s) (by rfl) ?_
  refine ri_iload_n h d_Fl_cornerX_32 rfl ?_
  refine ri_lald h _ d_Fl_cornerX_33 (by first | assumption | exact hS.shy_of (by first | assumption | omega) (by assumption) | exact hS.shy (by first | assumption | omega)) (by first | rfl | assumption) (by first | assumption | omega) (by first | decide | omega) ?_
  refine ri_cSNv_3 h d_Fl_cornerX_34 cs_Fl_112 (k_turnedX h0 _ (by first | assumption | omega) _ _) (Nat.le_of_ble_eq_true rfl) (Nat.le_of_ble_eq_true rfl) (Nat.le_of_ble_eq_true rfl) (Nat.le_of_ble_eq_true rfl) (Nat.le_of_ble_eq_true rfl) ?_
  refine ri_ladd h d_Fl_cornerX_37 ?_
  refine ri_lreturn h d_Fl_cornerX_38 (Nat.le_of_ble_eq_true rfl) (Nat.le_of_ble_eq_true rfl) ?_
  exact ⟨rfl, rfl⟩
theorem k_cornerY (h0 : g_0 l D s0) (hS : HS z ad Q N M) {j : Nat} (hj : j < 3) (hF : WFl Q.nS Q.sh (Q.fl j)) (hi : i < (Q.fl j).cnt) {k : Nat} (hk : k < 24) : Ct l D s0 y_Fl_cornerY (Cond.code y_Fl_cornerY b_Fl_cornerY 3 (some .long)) (rk 1 0 0) [.ref (ad 3 j), .int (nI i), .int (nI k)] M (fR (some (.long (FY Q.sh (Q.fl j) i k))) M) := by
  obtain ⟨hc, hF⟩ := hF
  obtain ⟨f1, f2, f3, f4⟩ := hF i hi
  have hi3 : i < 3000 := Nat.lt_of_lt_of_le hi hc
  refine Ct.of h0 (by decide +kernel) rfl fun X hX h => ?_
  obtain ⟨p_, l', e_, R_, s_, m_, ar_, be_, me_, c_⟩ := X
  obtain rfl : l' = l := hX
  refine ri_aload_n h d_Fl_cornerY_0 rfl ?_
  refine ri_get h d_Fl_cornerY_1 fl_Fl_28 (by first | assumption | exact hS.fl_of (by first | assumption | omega) (by assumption) | exact hS.fl (by first | assumption | omega) | exact gup_s) (by rfl) ?_
  refine ri_iload_n h d_Fl_cornerY_4 rfl ?_
  refine ri_lald h _ d_Fl_cornerY_5 (by first | assumption | exact hS.fly_of (by first | assumption | omega) (by assumption) | exact hS.fly (by first | assumption | omega)) (by first | rfl | assumption) (by first | assumption | omega) (by first | decide | omega) ?_
  refine ri_aload_n h d_Fl_cornerY_6 rfl ?_
  refine ri_get h d_Fl_cornerY_7 fl_Fl_21 (by first | assumption | exact hS.fl_of (by first | assumption | omega) (by assumption) | exact hS.fl (by first | assumption | omega) | exact gup_s) (by rfl) ?_
  refine ri_iload_n h d_Fl_cornerY_10 rfl ?_
  refine ri_iald h _ d_Fl_cornerY_11 (by first | assumption | exact hS.flt_of (by first | assumption | omega) (by assumption) | exact hS.flt (by first | assumption | omega)) (by first | rfl | assumption) (by first | assumption | omega) (by first | decide | omega) ?_
  refine ri_aload_n h d_Fl_cornerY_12 rfl ?_
  refine ri_get h d_Fl_cornerY_13 fl_Fl_11 (by first | assumption | exact hS.fl_of (by first | assumption | omega) (by assumption) | exact hS.fl (by first | assumption | omega) | exact gup_s) (by rfl) ?_
  refine ri_iload_n h d_Fl_cornerY_16 rfl ?_
  refine ri_aald h 4 _ d_Fl_cornerY_17 (Or.inr rfl) (by first | assumption | exact hS.fls_of (by first | assumption | omega) (by assumption) | exact hS.fls (by first | assumption | omega)) (by first | rfl | assumption) (by first | assumption | omega) (by first | decide | omega) (by first | assumption | exact congrArg (Option.map (ad 18)) (by assumption)) ?_
  refine ri_get h d_Fl_cornerY_18 fl_Fl_120 (by first | assumption | exact hS.sh_of (by first | assumption | omega) (by assumption) | exact hS.sh (by first | assumption | omega) | exact gup_s) (by rfl) ?_
  refine ri_iload_n h d_Fl_cornerY_21 rfl ?_
  refine ri_lald h _ d_Fl_cornerY_22 (by first | assumption | exact hS.shx_of (by first | assumption | omega) (by assumption) | exact hS.shx (by first | assumption | omega)) (by first | rfl | assumption) (by first | assumption | omega) (by first | decide | omega) ?_
  refine ri_aload_n h d_Fl_cornerY_23 rfl ?_
  refine ri_get h d_Fl_cornerY_24 fl_Fl_11 (by first | assumption | exact hS.fl_of (by first | assumption | omega) (by assumption) | exact hS.fl (by first | assumption | omega) | exact gup_s) (by rfl) ?_
  refine ri_iload_n h d_Fl_cornerY_27 rfl ?_
  refine ri_aald h 4 _ d_Fl_cornerY_28 (Or.inr rfl) (by first | assumption | exact hS.fls_of (by first | assumption | omega) (by assumption) | exact hS.fls (by first | assumption | omega)) (by first | rfl | assumption) (by first | assumption | omega) (by first | decide | omega) (by first | assumption | exact congrArg (Option.map (ad 18)) (by assumption)) ?_
  refine ri_get h d_Fl_cornerY_29 fl_Fl_121 (by first | assumption | exact hS.sh_of (by first | assumption | omega) (by assumption) | exact hS.sh (by first | assumption | omega) | exact gup_s) (by rfl) ?_
  refine ri_iload_n h d_Fl_cornerY_32 rfl ?_
  refine ri_lald h _ d_Fl_cornerY_33 (by first | assumption | exact hS.shy_of (by first | assumption | omega) (by assumption) | exact hS.shy (by first | assumption | omega)) (by first | rfl | assumption) (by first | assumption | omega) (by first | decide | omega) ?_
  refine ri_cSNv_3 h d_Fl_cornerY_34 cs_Fl_116 (k_turnedY h0 _ (by first | assumption | omega) _ _) (Nat.le_of_ble_eq_true rfl) (Nat.le_of_ble_eq_true rfl) (Nat.le_of_ble_eq_true rfl) (Nat.le_of_ble_eq_true rfl) (Nat.le_of_ble_eq_true rfl) ?_
  refine ri_ladd h d_Fl_cornerY_37 ?_
  refine ri_lreturn h d_Fl_cornerY_38 (Nat.le_of_ble_eq_true rfl) (Nat.le_of_ble_eq_true rfl) ?_
  exact ⟨rfl, rfl⟩
theorem k_at_ok (h0 : g_0 l D s0) (hS : HS z ad Q N M) (hF : WFl Q.nS Q.sh (Q.fl 0)) (hsc : ∀ s, s < Q.nS → (Q.sh s).cnt ≤ 24) (hi : i < (Q.fl 0).cnt) {k x : Nat} (hk : k < (Q.fl 0).cor i) (hx : x < 2) : Ct l D s0 y_ST_at (Cond.code y_ST_at b_ST_at 4 (some .long)) rkC [.ref (ad 0 0), .int (nI i), .int (nI k), .int (nI x)] M (fR (some (.long (if x = 0 then FX Q.sh (Q.fl 0) i k else FY Q.sh (Q.fl 0) i k))) M) := by
  have hc := hF.1
  obtain ⟨f1, f2, f3, f4⟩ := hF.2 i hi
  have f5 := hsc _ f2
  have hi3 : i < 3000 := Nat.lt_of_lt_of_le hi hc
  have hk24 : k < 24 := by omega
  have hj0 : (0 : Nat) < 3 := by decide
  refine Ct.of h0 (by decide +kernel) rfl fun X hX h => ?_
  obtain ⟨p_, l', e_, R_, s_, m_, ar_, be_, me_, c_⟩ := X
  obtain rfl : l' = l := hX
  rcases (show x = 0 ∨ x = 1 by omega) with rfl | rfl
  · refine ri_iload_n h d_ST_at_0 rfl ?_
    refine ri_ifM_lt h 15 d_ST_at_1 (by decide) (by omega) (fun c_1 => ?_) (fun c_1 => ?_)
    · exact c_1.elim
    · refine ri_iload_n h d_ST_at_4 rfl ?_
      refine ri_aload_n h d_ST_at_5 rfl ?_
      refine ri_get h d_ST_at_6 fl_ST_25 (by first | assumption | exact hS.st | exact gup_s) (by rfl) ?_
      refine ri_get h d_ST_at_9 fl_ST_182 (by first | assumption | exact hS.fl_of (by first | assumption | omega) (by assumption) | exact hS.fl (by first | assumption | omega) | exact gup_s) (by rfl) ?_
      first | refine ri_icmpN_lt h 25 d_ST_at_12 (by decide) (by omega) (by omega) (fun c_12 => ?_) (fun c_12 => ?_) | refine ri_icmp_lt h 25 d_ST_at_12 (by decide) (fun c_12 => ?_) (fun c_12 => ?_)
      · refine ri_iload_n h d_ST_at_25 rfl ?_
        refine ri_ifM_lt h 42 d_ST_at_26 (by decide) (by omega) (fun c_26 => ?_) (fun c_26 => ?_)
        · exact c_26.elim
        · refine ri_iload_n h d_ST_at_29 rfl ?_
          refine ri_aload_n h d_ST_at_30 rfl ?_
          refine ri_get h d_ST_at_31 fl_ST_25 (by first | assumption | exact hS.st | exact gup_s) (by rfl) ?_
          refine ri_get h d_ST_at_34 fl_ST_187 (by first | assumption | exact hS.fl_of (by first | assumption | omega) (by assumption) | exact hS.fl (by first | assumption | omega) | exact gup_s) (by rfl) ?_
          refine ri_iload_n h d_ST_at_37 rfl ?_
          refine ri_iald h _ d_ST_at_38 (by first | assumption | exact hS.flc_of (by first | assumption | omega) (by assumption) | exact hS.flc (by first | assumption | omega)) (by first | rfl | assumption) (by first | assumption | omega) (by first | decide | omega) ?_
          first | refine ri_icmpN_lt h 52 d_ST_at_39 (by decide) (by omega) (by omega) (fun c_39 => ?_) (fun c_39 => ?_) | refine ri_icmp_lt h 52 d_ST_at_39 (by decide) (fun c_39 => ?_) (fun c_39 => ?_)
          · refine ri_iload_n h d_ST_at_52 rfl ?_
            refine ri_ifM_lt h 61 d_ST_at_53 (by decide) (by omega) (fun c_53 => ?_) (fun c_53 => ?_)
            · exact c_53.elim
            · refine ri_iload_n h d_ST_at_56 rfl ?_
              refine ri_iconstN h 1 d_ST_at_57 rfl ?_
              first | refine ri_icmpN_le h 71 d_ST_at_58 (by decide) (by omega) (by omega) (fun c_58 => ?_) (fun c_58 => ?_) | refine ri_icmp_le h 71 d_ST_at_58 (by decide) (fun c_58 => ?_) (fun c_58 => ?_)
              · refine ri_iload_n h d_ST_at_71 rfl ?_
                first | refine ri_ifB_ne h 87 d_ST_at_72 (by decide) (fun c_72 => ?_) (fun c_72 => ?_) | refine ri_ifN_ne h 87 d_ST_at_72 (by decide) (by omega) (fun c_72 => ?_) (fun c_72 => ?_) | refine ri_if_ne h 87 d_ST_at_72 (by decide) (fun c_72 => ?_) (fun c_72 => ?_)
                · omega
                · refine ri_aload_n h d_ST_at_75 rfl ?_
                  refine ri_get h d_ST_at_76 fl_ST_25 (by first | assumption | exact hS.st | exact gup_s) (by rfl) ?_
                  refine ri_iload_n h d_ST_at_79 rfl ?_
                  refine ri_iload_n h d_ST_at_80 rfl ?_
                  refine ri_cVv_2 (r := (gR2, gT2, 11)) h d_ST_at_81 cv_ST_195 (by first | exact hS.lcO | exact hS.lsO | exact hS.lpO | exact hS.cesO (by first | assumption | omega) | exact hS.cepO (by first | assumption | omega) | exact ⟨_, (by first | assumption | exact hS.st | exact hS.mo | exact hS.out | exact hS.sb | exact hS.ce (by first | assumption | omega) | exact hS.ceb (by first | assumption | omega) | exact hS.sh (by first | assumption | omega) | exact hS.shb (by first | assumption | omega) | exact hS.pl (by first | assumption | omega) | exact hS.plb (by first | assumption | omega) | exact hS.fl (by first | assumption | omega) | exact gup_s | (refine gup_t (by assumption) ?_; first | assumption | exact gup_s | (refine gup_t (by assumption) ?_; first | assumption | exact gup_s | (refine gup_t (by assumption) ?_; first | assumption | exact gup_s))))⟩) rfl (k_cornerX h0 hS (by first | assumption | omega) (by assumption) (by first | assumption | omega) (by first | assumption | omega)) (Nat.le_of_ble_eq_true rfl) (Nat.le_of_ble_eq_true rfl) (Nat.le_of_ble_eq_true rfl) (Nat.le_of_ble_eq_true rfl) (Nat.le_of_ble_eq_true rfl) ?_
                  refine ri_goto h 96 d_ST_at_84 (by decide) ?_
                  refine ri_lreturn h d_ST_at_96 (Nat.le_of_ble_eq_true rfl) (Nat.le_of_ble_eq_true rfl) ?_
                  exact ⟨rfl, rfl⟩
              · omega
          · omega
      · omega
  · refine ri_iload_n h d_ST_at_0 rfl ?_
    refine ri_ifM_lt h 15 d_ST_at_1 (by decide) (by omega) (fun c_1 => ?_) (fun c_1 => ?_)
    · exact c_1.elim
    · refine ri_iload_n h d_ST_at_4 rfl ?_
      refine ri_aload_n h d_ST_at_5 rfl ?_
      refine ri_get h d_ST_at_6 fl_ST_25 (by first | assumption | exact hS.st | exact gup_s) (by rfl) ?_
      refine ri_get h d_ST_at_9 fl_ST_182 (by first | assumption | exact hS.fl_of (by first | assumption | omega) (by assumption) | exact hS.fl (by first | assumption | omega) | exact gup_s) (by rfl) ?_
      first | refine ri_icmpN_lt h 25 d_ST_at_12 (by decide) (by omega) (by omega) (fun c_12 => ?_) (fun c_12 => ?_) | refine ri_icmp_lt h 25 d_ST_at_12 (by decide) (fun c_12 => ?_) (fun c_12 => ?_)
      · refine ri_iload_n h d_ST_at_25 rfl ?_
        refine ri_ifM_lt h 42 d_ST_at_26 (by decide) (by omega) (fun c_26 => ?_) (fun c_26 => ?_)
        · exact c_26.elim
        · refine ri_iload_n h d_ST_at_29 rfl ?_
          refine ri_aload_n h d_ST_at_30 rfl ?_
          refine ri_get h d_ST_at_31 fl_ST_25 (by first | assumption | exact hS.st | exact gup_s) (by rfl) ?_
          refine ri_get h d_ST_at_34 fl_ST_187 (by first | assumption | exact hS.fl_of (by first | assumption | omega) (by assumption) | exact hS.fl (by first | assumption | omega) | exact gup_s) (by rfl) ?_
          refine ri_iload_n h d_ST_at_37 rfl ?_
          refine ri_iald h _ d_ST_at_38 (by first | assumption | exact hS.flc_of (by first | assumption | omega) (by assumption) | exact hS.flc (by first | assumption | omega)) (by first | rfl | assumption) (by first | assumption | omega) (by first | decide | omega) ?_
          first | refine ri_icmpN_lt h 52 d_ST_at_39 (by decide) (by omega) (by omega) (fun c_39 => ?_) (fun c_39 => ?_) | refine ri_icmp_lt h 52 d_ST_at_39 (by decide) (fun c_39 => ?_) (fun c_39 => ?_)
          · refine ri_iload_n h d_ST_at_52 rfl ?_
            refine ri_ifM_lt h 61 d_ST_at_53 (by decide) (by omega) (fun c_53 => ?_) (fun c_53 => ?_)
            · exact c_53.elim
            · refine ri_iload_n h d_ST_at_56 rfl ?_
              refine ri_iconstN h 1 d_ST_at_57 rfl ?_
              first | refine ri_icmpN_le h 71 d_ST_at_58 (by decide) (by omega) (by omega) (fun c_58 => ?_) (fun c_58 => ?_) | refine ri_icmp_le h 71 d_ST_at_58 (by decide) (fun c_58 => ?_) (fun c_58 => ?_)
              · refine ri_iload_n h d_ST_at_71 rfl ?_
                first | refine ri_ifB_ne h 87 d_ST_at_72 (by decide) (fun c_72 => ?_) (fun c_72 => ?_) | refine ri_ifN_ne h 87 d_ST_at_72 (by decide) (by omega) (fun c_72 => ?_) (fun c_72 => ?_) | refine ri_if_ne h 87 d_ST_at_72 (by decide) (fun c_72 => ?_) (fun c_72 => ?_)
                · refine ri_aload_n h d_ST_at_87 rfl ?_
                  refine ri_get h d_ST_at_88 fl_ST_25 (by first | assumption | exact hS.st | exact gup_s) (by rfl) ?_
                  refine ri_iload_n h d_ST_at_91 rfl ?_
                  refine ri_iload_n h d_ST_at_92 rfl ?_
                  refine ri_cVv_2 (r := (gR2, gT2, 11)) h d_ST_at_93 cv_ST_199 (by first | exact hS.lcO | exact hS.lsO | exact hS.lpO | exact hS.cesO (by first | assumption | omega) | exact hS.cepO (by first | assumption | omega) | exact ⟨_, (by first | assumption | exact hS.st | exact hS.mo | exact hS.out | exact hS.sb | exact hS.ce (by first | assumption | omega) | exact hS.ceb (by first | assumption | omega) | exact hS.sh (by first | assumption | omega) | exact hS.shb (by first | assumption | omega) | exact hS.pl (by first | assumption | omega) | exact hS.plb (by first | assumption | omega) | exact hS.fl (by first | assumption | omega) | exact gup_s | (refine gup_t (by assumption) ?_; first | assumption | exact gup_s | (refine gup_t (by assumption) ?_; first | assumption | exact gup_s | (refine gup_t (by assumption) ?_; first | assumption | exact gup_s))))⟩) rfl (k_cornerY h0 hS (by first | assumption | omega) (by assumption) (by first | assumption | omega) (by first | assumption | omega)) (Nat.le_of_ble_eq_true rfl) (Nat.le_of_ble_eq_true rfl) (Nat.le_of_ble_eq_true rfl) (Nat.le_of_ble_eq_true rfl) (Nat.le_of_ble_eq_true rfl) ?_
                  refine ri_lreturn h d_ST_at_96 (Nat.le_of_ble_eq_true rfl) (Nat.le_of_ble_eq_true rfl) ?_
                  exact ⟨rfl, rfl⟩
                · omega
              · omega
          · omega
      · omega
end MB
