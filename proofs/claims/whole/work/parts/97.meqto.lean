/-! equalTo: the model -/
section MET
variable {l : Launch} {D : gD} {s0 : State} {M : gH} {z : Nat} {ad : gA} {Q Qc : CS} {N : MS} {c d : Nat} {b : Nat → BxR}
variable {p_ : Program} {e_ : Env} {R_ : Room} {s_ : State} {m_ : MethodId} {ar_ : Array Value} {be_ : List Frame} {me_ : Method} {c_ : Code} {Fp : gR → gH → Prop}
theorem k_mequalTo_no1 (h0 : g_0 l D s0) (hS : HS z ad Qc N M) (hm : MR0 Q N) (hWF : WF Q) {p : Int32} (hp : ¬ ∃ c, c < Q.nC ∧ p = nI c) : Ct l D s0 y_Md_equalTo (Cond.code y_Md_equalTo b_Md_equalTo 4 (some .int)) rkM [.ref (ad 30 0), .int p] M (fM z ad Qc (some (.int 0)) (fun N' => ∃ u, N' = (N.set_l (va_up N.l 28 u)).set_code 1)) := by
  have hm0 := hm
  have hW := hWF.wb
  refine Ct.of h0 (by decide +kernel) rfl fun X hX h => ?_
  obtain ⟨p_, l', e_, R_, s_, m_, ar_, be_, me_, c_⟩ := X
  obtain rfl : l' = l := hX
  refine ri_aload_n h d_Md_equalTo_0 rfl ?_
  refine ri_dV0_0 (r := (gR6, gT6, 44)) h d_Md_equalTo_1 cv_Md_180 (by first | exact hS.lcO | exact hS.lsO | exact hS.lpO | exact hS.cesO (by first | assumption | omega) | exact hS.cepO (by first | assumption | omega) | exact ⟨_, (by first | assumption | exact hS.st | exact hS.mo | exact hS.out | exact hS.sb | exact hS.ce (by first | assumption | omega) | exact hS.ceb (by first | assumption | omega) | exact hS.sh (by first | assumption | omega) | exact hS.shb (by first | assumption | omega) | exact hS.pl (by first | assumption | omega) | exact hS.plb (by first | assumption | omega) | exact hS.fl (by first | assumption | omega) | exact gup_s | (refine gup_t (by assumption) ?_; first | assumption | exact gup_s | (refine gup_t (by assumption) ?_; first | assumption | exact gup_s | (refine gup_t (by assumption) ?_; first | assumption | exact gup_s))))⟩) rfl (k_mreckon h0 hS hm hW hWF.wl hWF.wx hWF.wc) (Nat.le_of_ble_eq_true rfl) (Nat.le_of_ble_eq_true rfl) (Nat.le_of_ble_eq_true rfl) (Nat.le_of_ble_eq_true rfl) (Nat.le_of_ble_eq_true rfl) (fun M hS => ?_)
  obtain ⟨u, hS, hu⟩ := hS
  have hm := hm0.ne (NE.l 28 (by decide) u)
  refine ri_aload_n h d_Md_equalTo_4 rfl ?_
  refine ri_aload_n h d_Md_equalTo_5 rfl ?_
  refine ri_iload_n h d_Md_equalTo_6 rfl ?_
  refine ri_cVv_1 (r := (gR6, gT6, 44)) h d_Md_equalTo_7 cv_Md_121 (by first | exact hS.lcO | exact hS.lsO | exact hS.lpO | exact hS.cesO (by first | assumption | omega) | exact hS.cepO (by first | assumption | omega) | exact ⟨_, (by first | assumption | exact hS.st | exact hS.mo | exact hS.out | exact hS.sb | exact hS.ce (by first | assumption | omega) | exact hS.ceb (by first | assumption | omega) | exact hS.sh (by first | assumption | omega) | exact hS.shb (by first | assumption | omega) | exact hS.pl (by first | assumption | omega) | exact hS.plb (by first | assumption | omega) | exact hS.fl (by first | assumption | omega) | exact gup_s | (refine gup_t (by assumption) ?_; first | assumption | exact gup_s | (refine gup_t (by assumption) ?_; first | assumption | exact gup_s | (refine gup_t (by assumption) ?_; first | assumption | exact gup_s))))⟩) rfl (k_isCell0 h0 hS hm hW) (Nat.le_of_ble_eq_true rfl) (Nat.le_of_ble_eq_true rfl) (Nat.le_of_ble_eq_true rfl) (Nat.le_of_ble_eq_true rfl) (Nat.le_of_ble_eq_true rfl) ?_
  first | refine ri_ifB_eq h 17 d_Md_equalTo_10 (by decide) (fun c_10 => ?_) (fun c_10 => ?_) | refine ri_ifN_eq h 17 d_Md_equalTo_10 (by decide) (by omega) (fun c_10 => ?_) (fun c_10 => ?_) | refine ri_if_eq h 17 d_Md_equalTo_10 (by decide) (fun c_10 => ?_) (fun c_10 => ?_)
  · first
    | (exfalso; first | exact absurd c_10 (by decide) | first | contradiction | omega)
    | (refine ri_iconstN h 1 d_Md_equalTo_17 rfl ?_
       refine ri_pm_code h d_Md_equalTo_18 fl_Md_108 hS (fun M hS => ?_)
       refine ri_iconstN h 0 d_Md_equalTo_21 rfl ?_
       refine ri_istore_n h d_Md_equalTo_22 (Nat.le_of_ble_eq_true rfl) ?_
       refine ri_aload_n h d_Md_equalTo_23 rfl ?_
       refine ri_get h d_Md_equalTo_24 fl_Md_108 (by first | assumption | exact hS.mo | exact gup_s) (by rfl) ?_
       try dsimp only [MS.code, MS.set_code]
       first | refine ri_ifB_ne h 66 d_Md_equalTo_27 (by decide) (fun c_27 => ?_) (fun c_27 => ?_) | refine ri_ifN_ne h 66 d_Md_equalTo_27 (by decide) (by omega) (fun c_27 => ?_) (fun c_27 => ?_) | refine ri_if_ne h 66 d_Md_equalTo_27 (by decide) (fun c_27 => ?_) (fun c_27 => ?_)
       · first
         | (exfalso; first | exact absurd c_27 (by decide) | first | contradiction | omega)
         | (refine ri_aload_n h d_Md_equalTo_66 rfl ?_
            refine ri_get h d_Md_equalTo_67 fl_Md_108 (by first | assumption | exact hS.mo | exact gup_s) (by rfl) ?_
            try dsimp only [MS.code, MS.set_code]
            first | refine ri_ifN_le h 75 d_Md_equalTo_70 (by decide) (by omega) (fun c_70 => ?_) (fun c_70 => ?_) | refine ri_if_le h 75 d_Md_equalTo_70 (by decide) (fun c_70 => ?_) (fun c_70 => ?_)
            · first
              | (exfalso; first | exact absurd c_70 (by decide) | first | contradiction | omega)
              | (omega)
            · first
              | (exfalso; first | exact absurd c_70 (by decide) | first | contradiction | omega)
              | (refine ri_iconstN h 0 d_Md_equalTo_73 rfl ?_
                 refine ri_ireturn h d_Md_equalTo_74 (Nat.le_of_ble_eq_true rfl) (Nat.le_of_ble_eq_true rfl) ?_
                 exact ⟨rfl, _, hS, u, rfl⟩))
       · first
         | (exfalso; first | exact absurd c_27 (by decide) | first | contradiction | omega)
         | (omega))
  · first
    | (exfalso; first | exact absurd c_10 (by decide) | first | contradiction | omega)
    | (refine ri_iconstN h 0 d_Md_equalTo_13 rfl ?_
       refine ri_goto h 18 d_Md_equalTo_14 (by decide) ?_
       refine ri_pm_code h d_Md_equalTo_18 fl_Md_108 hS (fun M hS => ?_)
       refine ri_iconstN h 0 d_Md_equalTo_21 rfl ?_
       refine ri_istore_n h d_Md_equalTo_22 (Nat.le_of_ble_eq_true rfl) ?_
       refine ri_aload_n h d_Md_equalTo_23 rfl ?_
       refine ri_get h d_Md_equalTo_24 fl_Md_108 (by first | assumption | exact hS.mo | exact gup_s) (by rfl) ?_
       try dsimp only [MS.code, MS.set_code]
       first | refine ri_ifB_ne h 66 d_Md_equalTo_27 (by decide) (fun c_27 => ?_) (fun c_27 => ?_) | refine ri_ifN_ne h 66 d_Md_equalTo_27 (by decide) (by omega) (fun c_27 => ?_) (fun c_27 => ?_) | refine ri_if_ne h 66 d_Md_equalTo_27 (by decide) (fun c_27 => ?_) (fun c_27 => ?_)
       · first
         | (exfalso; first | exact absurd c_27 (by decide) | first | contradiction | omega)
         | (refine ri_aload_n h d_Md_equalTo_66 rfl ?_
            refine ri_get h d_Md_equalTo_67 fl_Md_108 (by first | assumption | exact hS.mo | exact gup_s) (by rfl) ?_
            try dsimp only [MS.code, MS.set_code]
            first | refine ri_ifN_le h 75 d_Md_equalTo_70 (by decide) (by omega) (fun c_70 => ?_) (fun c_70 => ?_) | refine ri_if_le h 75 d_Md_equalTo_70 (by decide) (fun c_70 => ?_) (fun c_70 => ?_)
            · first
              | (exfalso; first | exact absurd c_70 (by decide) | first | contradiction | omega)
              | (omega)
            · first
              | (exfalso; first | exact absurd c_70 (by decide) | first | contradiction | omega)
              | (refine ri_iconstN h 0 d_Md_equalTo_73 rfl ?_
                 refine ri_ireturn h d_Md_equalTo_74 (Nat.le_of_ble_eq_true rfl) (Nat.le_of_ble_eq_true rfl) ?_
                 exact ⟨rfl, _, hS, u, rfl⟩))
       · first
         | (exfalso; first | exact absurd c_27 (by decide) | first | contradiction | omega)
         | (omega))
/-- the sizes are looked at -/
theorem met_1 (h0 : g_0 l D s0) (h : gF (gzz D s0 (p_, l, e_, R_, s_, m_, ar_, be_, me_, c_) rkM Fp 4) b_Md_equalTo y_Md_equalTo.cls (some .int) [] y_Md_equalTo.name) (hW : WB Q) (hS : HS z ad Qc (N.set_code 0) M) (hu : ∀ x, x < Q.nC → szR Q (N.l 28) x) (hc : c < Q.nC) (kno : (∃ x, x ≤ c ∧ ¬ SZ Q (-1) x ≤ 3000) → ∀ M, HS z ad Qc (N.set_code 2) M → Fp (.inl (some (.int 0))) M) (k : (∀ x, x ≤ c → SZ Q (-1) x ≤ 3000) → ∀ M, HS z ad Qc (N.set_code 0) M → G (gzz D s0 (p_, l, e_, R_, s_, m_, ar_, be_, me_, c_) rkM Fp 4) 75 [(0, .ref (ad 30 0)), (1, .int (nI c))] [] M 0 0) : ∀ (q i : Nat), i + q = c + 1 → ∀ M, HS z ad Qc (N.set_code 0) M → (∀ x, x < i → SZ Q (-1) x ≤ 3000) → G (gzz D s0 (p_, l, e_, R_, s_, m_, ar_, be_, me_, c_) rkM Fp 4) 23 [(0, .ref (ad 30 0)), (1, .int (nI c)), (2, .int (nI i))] [] M 0 0 := by
  have hb := hW.1
  intro q
  induction q with
  | zero =>
    intro i hi M hS hlt
    refine ri_aload_n h d_Md_equalTo_23 rfl ?_
    refine ri_get h d_Md_equalTo_24 fl_Md_108 (by first | assumption | exact hS.mo | exact gup_s) (by rfl) ?_
    try dsimp only [MS.code, MS.set_code]
    first | refine ri_ifB_ne h 66 d_Md_equalTo_27 (by decide) (fun c_27 => ?_) (fun c_27 => ?_) | refine ri_ifN_ne h 66 d_Md_equalTo_27 (by decide) (by omega) (fun c_27 => ?_) (fun c_27 => ?_) | refine ri_if_ne h 66 d_Md_equalTo_27 (by decide) (fun c_27 => ?_) (fun c_27 => ?_)
    · first | exact absurd rfl c_27 | exact absurd c_27 (by decide)
    refine ri_iload_n h d_Md_equalTo_30 rfl ?_
    refine ri_iload_n h d_Md_equalTo_31 rfl ?_
    first | refine ri_icmpN_gt h 66 d_Md_equalTo_32 (by decide) (by omega) (by omega) (fun c_32 => ?_) (fun c_32 => ?_) | refine ri_icmp_gt h 66 d_Md_equalTo_32 (by decide) (fun c_32 => ?_) (fun c_32 => ?_)
    · refine ri_aload_n h d_Md_equalTo_66 rfl ?_
      refine ri_get h d_Md_equalTo_67 fl_Md_108 (by first | assumption | exact hS.mo | exact gup_s) (by rfl) ?_
      try dsimp only [MS.code, MS.set_code]
      first | refine ri_ifN_le h 75 d_Md_equalTo_70 (by decide) (by omega) (fun c_70 => ?_) (fun c_70 => ?_) | refine ri_if_le h 75 d_Md_equalTo_70 (by decide) (fun c_70 => ?_) (fun c_70 => ?_)
      · exact ri_ls [(0, .ref (ad 30 0)), (1, .int (nI c))] ⟨rfl, rfl, trivial⟩ (k (fun x hx => hlt x (by omega)) M hS)
      · first | exact absurd (by decide) c_70 | exact absurd c_70 (by decide) | omega
    · omega
  | succ q ih =>
    intro i hi M hS hlt
    have hiC : i < Q.nC := by omega
    have hi20 : i < 20 := by omega
    have h28 := hu i hiC
    refine ri_aload_n h d_Md_equalTo_23 rfl ?_
    refine ri_get h d_Md_equalTo_24 fl_Md_108 (by first | assumption | exact hS.mo | exact gup_s) (by rfl) ?_
    try dsimp only [MS.code, MS.set_code]
    first | refine ri_ifB_ne h 66 d_Md_equalTo_27 (by decide) (fun c_27 => ?_) (fun c_27 => ?_) | refine ri_ifN_ne h 66 d_Md_equalTo_27 (by decide) (by omega) (fun c_27 => ?_) (fun c_27 => ?_) | refine ri_if_ne h 66 d_Md_equalTo_27 (by decide) (fun c_27 => ?_) (fun c_27 => ?_)
    · first | exact absurd rfl c_27 | exact absurd c_27 (by decide)
    refine ri_iload_n h d_Md_equalTo_30 rfl ?_
    refine ri_iload_n h d_Md_equalTo_31 rfl ?_
    first | refine ri_icmpN_gt h 66 d_Md_equalTo_32 (by decide) (by omega) (by omega) (fun c_32 => ?_) (fun c_32 => ?_) | refine ri_icmp_gt h 66 d_Md_equalTo_32 (by decide) (fun c_32 => ?_) (fun c_32 => ?_)
    · omega
    refine ri_aload_n h d_Md_equalTo_35 rfl ?_
    refine ri_aload_n h d_Md_equalTo_36 rfl ?_
    refine ri_get h d_Md_equalTo_37 fl_Md_79 (by first | assumption | exact hS.mo | exact gup_s) (by rfl) ?_
    refine ri_iload_n h d_Md_equalTo_40 rfl ?_
    refine ri_laldE h _ d_Md_equalTo_41 (by first | assumption | exact hS.a28) (by first | rfl | assumption) (by first | assumption | omega) (by first | decide | omega) (by first | assumption | assumption | rfl) ?_
    refine ri_ldc2 h 3000 d_Md_equalTo_42 kl_Md_183 ?_
    refine ri_lcmp_le h 53 d_Md_equalTo_45 d_Md_equalTo_46 (by decide) (fun c_45 => ?_) (fun c_45 => ?_)
    · have hn : SZ Q (-1) i ≤ 3000 := sz_gt.mp c_45
      refine ri_aload_n h d_Md_equalTo_53 rfl ?_
      refine ri_get h d_Md_equalTo_54 fl_Md_108 (by first | assumption | exact hS.mo | exact gup_s) (by rfl) ?_
      try dsimp only [MS.code, MS.set_code]
      refine ri_pm_code h d_Md_equalTo_57 fl_Md_108 hS (fun M hS => ?_)
      first | refine ri_iincN h d_Md_equalTo_60 rfl (Nat.le_of_ble_eq_true rfl) ?_ | refine ri_iinc h _ d_Md_equalTo_60 rfl rfl (Nat.le_of_ble_eq_true rfl) ?_
      refine ri_goto h 23 d_Md_equalTo_63 (by decide) ?_
      refine ri_ls [(0, .ref (ad 30 0)), (1, .int (nI c)), (2, .int (nI (i + 1)))] ⟨rfl, rfl, rfl, trivial⟩ (ih (i + 1) (by omega) M hS (fun x hx => ?_))
      rcases (show x < i ∨ x = i by omega) with e | rfl
      · exact hlt x e
      · exact hn
    · have hn : ¬ SZ Q (-1) i ≤ 3000 := fun q => c_45 (sz_gt.mpr q)
      refine ri_iconstN h 2 d_Md_equalTo_49 rfl ?_
      refine ri_goto h 57 d_Md_equalTo_50 (by decide) ?_
      refine ri_pm_code h d_Md_equalTo_57 fl_Md_108 hS (fun M hS => ?_)
      first | refine ri_iincN h d_Md_equalTo_60 rfl (Nat.le_of_ble_eq_true rfl) ?_ | refine ri_iinc h _ d_Md_equalTo_60 rfl rfl (Nat.le_of_ble_eq_true rfl) ?_
      refine ri_goto h 23 d_Md_equalTo_63 (by decide) ?_
      refine ri_aload_n h d_Md_equalTo_23 rfl ?_
      refine ri_get h d_Md_equalTo_24 fl_Md_108 (by first | assumption | exact hS.mo | exact gup_s) (by rfl) ?_
      try dsimp only [MS.code, MS.set_code]
      first | refine ri_ifB_ne h 66 d_Md_equalTo_27 (by decide) (fun c_27 => ?_) (fun c_27 => ?_) | refine ri_ifN_ne h 66 d_Md_equalTo_27 (by decide) (by omega) (fun c_27 => ?_) (fun c_27 => ?_) | refine ri_if_ne h 66 d_Md_equalTo_27 (by decide) (fun c_27 => ?_) (fun c_27 => ?_)
      · refine ri_aload_n h d_Md_equalTo_66 rfl ?_
        refine ri_get h d_Md_equalTo_67 fl_Md_108 (by first | assumption | exact hS.mo | exact gup_s) (by rfl) ?_
        try dsimp only [MS.code, MS.set_code]
        first | refine ri_ifN_le h 75 d_Md_equalTo_70 (by decide) (by omega) (fun c_70 => ?_) (fun c_70 => ?_) | refine ri_if_le h 75 d_Md_equalTo_70 (by decide) (fun c_70 => ?_) (fun c_70 => ?_)
        · first | exact absurd c_70 (by decide) | omega
        · refine ri_iconstN h 0 d_Md_equalTo_73 rfl ?_
          refine ri_ireturn h d_Md_equalTo_74 (Nat.le_of_ble_eq_true rfl) (Nat.le_of_ble_eq_true rfl) ?_
          exact kno ⟨i, by omega, hn⟩ M hS
      · first | exact absurd c_27 (by decide) | exact absurd rfl c_27
theorem k_mequalTo_no2 (h0 : g_0 l D s0) (hS : HS z ad Qc N M) (hm : MR0 Q N) (hWF : WF Q) (hc : c < Q.nC) (hn : ¬ ∀ x, x ≤ c → SZ Q (-1) x ≤ 3000) : Ct l D s0 y_Md_equalTo (Cond.code y_Md_equalTo b_Md_equalTo 4 (some .int)) rkM [.ref (ad 30 0), .int (nI c)] M (fM z ad Qc (some (.int 0)) (fun N' => ∃ u, N' = (N.set_l (va_up N.l 28 u)).set_code 2)) := by
  have hm0 := hm
  have hW := hWF.wb
  have hc' : ∃ c', c' < Q.nC ∧ nI c = nI c' := ⟨c, hc, rfl⟩
  refine Ct.of h0 (by decide +kernel) rfl fun X hX h => ?_
  obtain ⟨p_, l', e_, R_, s_, m_, ar_, be_, me_, c_⟩ := X
  obtain rfl : l' = l := hX
  refine ri_aload_n h d_Md_equalTo_0 rfl ?_
  refine ri_dV0_0 (r := (gR6, gT6, 44)) h d_Md_equalTo_1 cv_Md_180 (by first | exact hS.lcO | exact hS.lsO | exact hS.lpO | exact hS.cesO (by first | assumption | omega) | exact hS.cepO (by first | assumption | omega) | exact ⟨_, (by first | assumption | exact hS.st | exact hS.mo | exact hS.out | exact hS.sb | exact hS.ce (by first | assumption | omega) | exact hS.ceb (by first | assumption | omega) | exact hS.sh (by first | assumption | omega) | exact hS.shb (by first | assumption | omega) | exact hS.pl (by first | assumption | omega) | exact hS.plb (by first | assumption | omega) | exact hS.fl (by first | assumption | omega) | exact gup_s | (refine gup_t (by assumption) ?_; first | assumption | exact gup_s | (refine gup_t (by assumption) ?_; first | assumption | exact gup_s | (refine gup_t (by assumption) ?_; first | assumption | exact gup_s))))⟩) rfl (k_mreckon h0 hS hm hW hWF.wl hWF.wx hWF.wc) (Nat.le_of_ble_eq_true rfl) (Nat.le_of_ble_eq_true rfl) (Nat.le_of_ble_eq_true rfl) (Nat.le_of_ble_eq_true rfl) (Nat.le_of_ble_eq_true rfl) (fun M hS => ?_)
  obtain ⟨u, hS, hu⟩ := hS
  have hm := hm0.ne (NE.l 28 (by decide) u)
  refine ri_aload_n h d_Md_equalTo_4 rfl ?_
  refine ri_aload_n h d_Md_equalTo_5 rfl ?_
  refine ri_iload_n h d_Md_equalTo_6 rfl ?_
  refine ri_cVv_1 (r := (gR6, gT6, 44)) h d_Md_equalTo_7 cv_Md_121 (by first | exact hS.lcO | exact hS.lsO | exact hS.lpO | exact hS.cesO (by first | assumption | omega) | exact hS.cepO (by first | assumption | omega) | exact ⟨_, (by first | assumption | exact hS.st | exact hS.mo | exact hS.out | exact hS.sb | exact hS.ce (by first | assumption | omega) | exact hS.ceb (by first | assumption | omega) | exact hS.sh (by first | assumption | omega) | exact hS.shb (by first | assumption | omega) | exact hS.pl (by first | assumption | omega) | exact hS.plb (by first | assumption | omega) | exact hS.fl (by first | assumption | omega) | exact gup_s | (refine gup_t (by assumption) ?_; first | assumption | exact gup_s | (refine gup_t (by assumption) ?_; first | assumption | exact gup_s | (refine gup_t (by assumption) ?_; first | assumption | exact gup_s))))⟩) rfl (k_isCell0 h0 hS hm hW) (Nat.le_of_ble_eq_true rfl) (Nat.le_of_ble_eq_true rfl) (Nat.le_of_ble_eq_true rfl) (Nat.le_of_ble_eq_true rfl) (Nat.le_of_ble_eq_true rfl) ?_
  first | refine ri_ifB_eq h 17 d_Md_equalTo_10 (by decide) (fun c_10 => ?_) (fun c_10 => ?_) | refine ri_ifN_eq h 17 d_Md_equalTo_10 (by decide) (by omega) (fun c_10 => ?_) (fun c_10 => ?_) | refine ri_if_eq h 17 d_Md_equalTo_10 (by decide) (fun c_10 => ?_) (fun c_10 => ?_)
  · first
    | (exfalso; first | exact absurd c_10 (by decide) | first | contradiction | omega)
    | (refine ri_iconstN h 1 d_Md_equalTo_17 rfl ?_
       refine ri_pm_code h d_Md_equalTo_18 fl_Md_108 hS (fun M hS => ?_)
       refine ri_iconstN h 0 d_Md_equalTo_21 rfl ?_
       refine ri_istore_n h d_Md_equalTo_22 (Nat.le_of_ble_eq_true rfl) ?_
       exact ri_ls [(0, .ref (ad 30 0)), (1, .int (nI c)), (2, .int (nI 0))] ⟨rfl, rfl, rfl, trivial⟩ (met_1 (N := N.set_l (va_up N.l 28 u)) h0 h hW hS hu hc (fun _ M hS => ⟨rfl, _, hS, u, rfl⟩) (fun q => absurd q hn) (c + 1) 0 (by omega) M hS (fun x hx => by omega)))
  · first
    | (exfalso; first | exact absurd c_10 (by decide) | first | contradiction | omega)
    | (refine ri_iconstN h 0 d_Md_equalTo_13 rfl ?_
       refine ri_goto h 18 d_Md_equalTo_14 (by decide) ?_
       refine ri_pm_code h d_Md_equalTo_18 fl_Md_108 hS (fun M hS => ?_)
       refine ri_iconstN h 0 d_Md_equalTo_21 rfl ?_
       refine ri_istore_n h d_Md_equalTo_22 (Nat.le_of_ble_eq_true rfl) ?_
       exact ri_ls [(0, .ref (ad 30 0)), (1, .int (nI c)), (2, .int (nI 0))] ⟨rfl, rfl, rfl, trivial⟩ (met_1 (N := N.set_l (va_up N.l 28 u)) h0 h hW hS hu hc (fun _ M hS => ⟨rfl, _, hS, u, rfl⟩) (fun q => absurd q hn) (c + 1) 0 (by omega) M hS (fun x hx => by omega)))
def meqP (z : Nat) (ad : gA) (Q Qc : CS) (N : MS) (b : Nat → BxR) (c : Nat) : gR → gH → Prop := fun r M' => ∃ (v : Int32) (N' : MS) (u : Nat → Int64), r = .inl (some (.int v)) ∧ eqA Q b c v ∧ HS z ad Qc N' M' ∧ NX2 ((N.set_l (va_up N.l 28 u)).set_code 0) N'
theorem k_mequalTo_ok (h0 : g_0 l D s0) (hS : HS z ad Qc N M) (hm : MR0 Q N) (hWF : WF Q) (hc : c < Q.nC) (hB : ∀ x, x < Q.nC → HB (b x) (PT Q (-1) x)) (hn : ∀ x, x ≤ c → SZ Q (-1) x ≤ 3000) : Ct l D s0 y_Md_equalTo (Cond.code y_Md_equalTo b_Md_equalTo 4 (some .int)) rkM [.ref (ad 30 0), .int (nI c)] M (meqP z ad Q Qc N b c) := by
  have hm0 := hm
  have hW := hWF.wb
  have hb1 := hW.1
  have hc' : ∃ c', c' < Q.nC ∧ nI c = nI c' := ⟨c, hc, rfl⟩
  have hnc := hn c (Nat.le_refl _)
  have hlc : (FLn Q (-1) 21 c (0, 0, 0)).length = SZ Q (-1) c := FLn_len hWF.wl hWF.wb 21 c _ hc (rho_lt hWF.wb)
  have hzc : (zsC Q b c).length = SZ Q (-1) c := by rw [List.length_map]; exact hlc
  refine Ct.of h0 (by decide +kernel) rfl fun X hX h => ?_
  obtain ⟨p_, l', e_, R_, s_, m_, ar_, be_, me_, c_⟩ := X
  obtain rfl : l' = l := hX
  have LC : ∀ (u : Nat → Int64), (∀ x, x < Q.nC → szR Q u x) → ∀ (q i : Nat), i + q = c → ∀ (M : gH) (N1 : MS), HS z ad Qc N1 M → MR0 Q N1 → NX2 ((N.set_l (va_up N.l 28 u)).set_code 0) N1 → N1.l 28 = u → fLs Q N1 0 (zsC Q b c) → (∀ x, x < i → ¬ (keys Q b c).Perm (keys Q b x)) → G (gzz D s0 (p_, l', e_, R_, s_, m_, ar_, be_, me_, c_) rkM (meqP z ad Q Qc N b c) 4) 91 [(0, .ref (ad 30 0)), (1, .int (nI c)), (2, .int (nI (SZ Q (-1) c))), (3, .int (nI i))] [] M 0 0 := by
    intro u hu q
    induction q with
    | zero =>
      intro i hi M N1 hS hm1 hnx h28 hf hlt
      refine ri_iload_n h d_Md_equalTo_91 rfl ?_
      refine ri_iload_n h d_Md_equalTo_92 rfl ?_
      first | refine ri_icmpN_ge h 113 d_Md_equalTo_93 (by decide) (by omega) (by omega) (fun c_93 => ?_) (fun c_93 => ?_) | refine ri_icmp_ge h 113 d_Md_equalTo_93 (by decide) (fun c_93 => ?_) (fun c_93 => ?_)
      · refine ri_iconst h (-1) d_Md_equalTo_113 rfl ?_
        refine ri_ireturn h d_Md_equalTo_114 (Nat.le_of_ble_eq_true rfl) (Nat.le_of_ble_eq_true rfl) ?_
        exact ⟨-1, N1, u, rfl, Or.inr ⟨rfl, fun x hx => hlt x (by omega)⟩, hS, hnx⟩
      · omega
    | succ q ih =>
      intro i hi M N1 hS hm1 hnx h28 hf hlt
      have hiC : i < Q.nC := by omega
      have hni := hn i (by omega)
      have hu1 : ∀ x, x < Q.nC → szR Q (N1.l 28) x := by rw [h28]; exact hu
      have heq := fun (bb : Int32) => k_misEqual (bb := bb) h0 hS hm1 hWF hc hiC hB hnc hni hu1 hf
      rw [hzc] at heq
      refine ri_iload_n h d_Md_equalTo_91 rfl ?_
      refine ri_iload_n h d_Md_equalTo_92 rfl ?_
      first | refine ri_icmpN_ge h 113 d_Md_equalTo_93 (by decide) (by omega) (by omega) (fun c_93 => ?_) (fun c_93 => ?_) | refine ri_icmp_ge h 113 d_Md_equalTo_93 (by decide) (fun c_93 => ?_) (fun c_93 => ?_)
      · omega
      refine ri_aload_n h d_Md_equalTo_96 rfl ?_
      refine ri_iload_n h d_Md_equalTo_97 rfl ?_
      refine ri_iload_n h d_Md_equalTo_98 rfl ?_
      by_cases hp : (keys Q b c).Perm (keys Q b i)
      · refine ri_dVv_2 (r := (gR6, gT6, 44)) h d_Md_equalTo_99 cv_Md_234 (by first | exact hS.lcO | exact hS.lsO | exact hS.lpO | exact hS.cesO (by first | assumption | omega) | exact hS.cepO (by first | assumption | omega) | exact ⟨_, (by first | assumption | exact hS.st | exact hS.mo | exact hS.out | exact hS.sb | exact hS.ce (by first | assumption | omega) | exact hS.ceb (by first | assumption | omega) | exact hS.sh (by first | assumption | omega) | exact hS.shb (by first | assumption | omega) | exact hS.pl (by first | assumption | omega) | exact hS.plb (by first | assumption | omega) | exact hS.fl (by first | assumption | omega) | exact gup_s | (refine gup_t (by assumption) ?_; first | assumption | exact gup_s | (refine gup_t (by assumption) ?_; first | assumption | exact gup_s | (refine gup_t (by assumption) ?_; first | assumption | exact gup_s))))⟩) rfl (heq (nI 1) (Or.inl ⟨rfl, hp⟩)) (Nat.le_of_ble_eq_true rfl) (Nat.le_of_ble_eq_true rfl) (Nat.le_of_ble_eq_true rfl) (Nat.le_of_ble_eq_true rfl) (Nat.le_of_ble_eq_true rfl) (fun M hS => ?_)
        obtain ⟨N2, hS, hnt⟩ := hS
        first | refine ri_ifB_eq h 107 d_Md_equalTo_102 (by decide) (fun c_102 => ?_) (fun c_102 => ?_) | refine ri_ifN_eq h 107 d_Md_equalTo_102 (by decide) (by omega) (fun c_102 => ?_) (fun c_102 => ?_) | refine ri_if_eq h 107 d_Md_equalTo_102 (by decide) (fun c_102 => ?_) (fun c_102 => ?_)
        · exact absurd c_102 (by decide)
        · refine ri_iload_n h d_Md_equalTo_105 rfl ?_
          refine ri_ireturn h d_Md_equalTo_106 (Nat.le_of_ble_eq_true rfl) (Nat.le_of_ble_eq_true rfl) ?_
          exact ⟨nI i, N2, u, rfl, Or.inl ⟨i, by omega, rfl, hp, hlt⟩, hS, hnx.trans (hnt.nx (by decide))⟩
      · refine ri_dVv_2 (r := (gR6, gT6, 44)) h d_Md_equalTo_99 cv_Md_234 (by first | exact hS.lcO | exact hS.lsO | exact hS.lpO | exact hS.cesO (by first | assumption | omega) | exact hS.cepO (by first | assumption | omega) | exact ⟨_, (by first | assumption | exact hS.st | exact hS.mo | exact hS.out | exact hS.sb | exact hS.ce (by first | assumption | omega) | exact hS.ceb (by first | assumption | omega) | exact hS.sh (by first | assumption | omega) | exact hS.shb (by first | assumption | omega) | exact hS.pl (by first | assumption | omega) | exact hS.plb (by first | assumption | omega) | exact hS.fl (by first | assumption | omega) | exact gup_s | (refine gup_t (by assumption) ?_; first | assumption | exact gup_s | (refine gup_t (by assumption) ?_; first | assumption | exact gup_s | (refine gup_t (by assumption) ?_; first | assumption | exact gup_s))))⟩) rfl (heq (nI 0) (Or.inr ⟨rfl, hp⟩)) (Nat.le_of_ble_eq_true rfl) (Nat.le_of_ble_eq_true rfl) (Nat.le_of_ble_eq_true rfl) (Nat.le_of_ble_eq_true rfl) (Nat.le_of_ble_eq_true rfl) (fun M hS => ?_)
        obtain ⟨N2, hS, hnt⟩ := hS
        first | refine ri_ifB_eq h 107 d_Md_equalTo_102 (by decide) (fun c_102 => ?_) (fun c_102 => ?_) | refine ri_ifN_eq h 107 d_Md_equalTo_102 (by decide) (by omega) (fun c_102 => ?_) (fun c_102 => ?_) | refine ri_if_eq h 107 d_Md_equalTo_102 (by decide) (fun c_102 => ?_) (fun c_102 => ?_)
        · first | refine ri_iincN h d_Md_equalTo_107 rfl (Nat.le_of_ble_eq_true rfl) ?_ | refine ri_iinc h _ d_Md_equalTo_107 rfl rfl (Nat.le_of_ble_eq_true rfl) ?_
          refine ri_goto h 91 d_Md_equalTo_110 (by decide) ?_
          refine ri_ls [(0, .ref (ad 30 0)), (1, .int (nI c)), (2, .int (nI (SZ Q (-1) c))), (3, .int (nI (i + 1)))] ⟨rfl, rfl, rfl, rfl, trivial⟩ (ih (i + 1) (by omega) M N2 hS (hm1.ne hnt.1) (hnx.trans (hnt.nx (by decide))) (hnt.2.1.trans h28) (fLs_nt hf hnt (by omega) (fun w hw => (zs_ok hWF hc (hB c hc) hw).2.2.1)) (fun x hx => ?_))
          rcases (show x < i ∨ x = i by omega) with e | rfl
          · exact hlt x e
          · exact hp
        · exact absurd rfl c_102
  refine ri_aload_n h d_Md_equalTo_0 rfl ?_
  refine ri_dV0_0 (r := (gR6, gT6, 44)) h d_Md_equalTo_1 cv_Md_180 (by first | exact hS.lcO | exact hS.lsO | exact hS.lpO | exact hS.cesO (by first | assumption | omega) | exact hS.cepO (by first | assumption | omega) | exact ⟨_, (by first | assumption | exact hS.st | exact hS.mo | exact hS.out | exact hS.sb | exact hS.ce (by first | assumption | omega) | exact hS.ceb (by first | assumption | omega) | exact hS.sh (by first | assumption | omega) | exact hS.shb (by first | assumption | omega) | exact hS.pl (by first | assumption | omega) | exact hS.plb (by first | assumption | omega) | exact hS.fl (by first | assumption | omega) | exact gup_s | (refine gup_t (by assumption) ?_; first | assumption | exact gup_s | (refine gup_t (by assumption) ?_; first | assumption | exact gup_s | (refine gup_t (by assumption) ?_; first | assumption | exact gup_s))))⟩) rfl (k_mreckon h0 hS hm hW hWF.wl hWF.wx hWF.wc) (Nat.le_of_ble_eq_true rfl) (Nat.le_of_ble_eq_true rfl) (Nat.le_of_ble_eq_true rfl) (Nat.le_of_ble_eq_true rfl) (Nat.le_of_ble_eq_true rfl) (fun M hS => ?_)
  obtain ⟨u, hS, hu⟩ := hS
  have hm := hm0.ne (NE.l 28 (by decide) u)
  have C75 : ∀ M, HS z ad Qc ((N.set_l (va_up N.l 28 u)).set_code 0) M → G (gzz D s0 (p_, l', e_, R_, s_, m_, ar_, be_, me_, c_) rkM (meqP z ad Q Qc N b c) 4) 75 [(0, .ref (ad 30 0)), (1, .int (nI c))] [] M 0 0 := by
    intro M hS
    have hlay := k_mlay (N := (N.set_l (va_up N.l 28 u)).set_code 0) (lay := -1) h0 hS hm hW hWF.wl hWF.wx hWF.wc (show 0 < 3 by decide) hc hu (by rw [hlc]; exact hnc)
    rw [hlc] at hlay
    refine ri_aload_n h d_Md_equalTo_75 rfl ?_
    refine ri_iconstN h 0 d_Md_equalTo_76 rfl ?_
    refine ri_iload_n h d_Md_equalTo_77 rfl ?_
    refine ri_iconst h (-1) d_Md_equalTo_78 rfl ?_
    refine ri_dVv_3 (r := (gR6, gT6, 44)) h d_Md_equalTo_79 cv_Md_185 (by first | exact hS.lcO | exact hS.lsO | exact hS.lpO | exact hS.cesO (by first | assumption | omega) | exact hS.cepO (by first | assumption | omega) | exact ⟨_, (by first | assumption | exact hS.st | exact hS.mo | exact hS.out | exact hS.sb | exact hS.ce (by first | assumption | omega) | exact hS.ceb (by first | assumption | omega) | exact hS.sh (by first | assumption | omega) | exact hS.shb (by first | assumption | omega) | exact hS.pl (by first | assumption | omega) | exact hS.plb (by first | assumption | omega) | exact hS.fl (by first | assumption | omega) | exact gup_s | (refine gup_t (by assumption) ?_; first | assumption | exact gup_s | (refine gup_t (by assumption) ?_; first | assumption | exact gup_s | (refine gup_t (by assumption) ?_; first | assumption | exact gup_s))))⟩) rfl (hlay) (Nat.le_of_ble_eq_true rfl) (Nat.le_of_ble_eq_true rfl) (Nat.le_of_ble_eq_true rfl) (Nat.le_of_ble_eq_true rfl) (Nat.le_of_ble_eq_true rfl) (fun M hS => ?_)
    obtain ⟨N1, hS, hnz, hfl⟩ := hS
    have hm1 : MR0 Q N1 := MR0.ne (N := (N.set_l (va_up N.l 28 u)).set_code 0) hm hnz.1
    have htz := k_mtoZero (b := b) h0 hS hm1 hWF (show 0 < 3 by decide) hc (hB c hc) (by rw [hlc]; exact hnc) hfl
    rw [hlc] at htz
    refine ri_istore_n h d_Md_equalTo_82 (Nat.le_of_ble_eq_true rfl) ?_
    refine ri_aload_n h d_Md_equalTo_83 rfl ?_
    refine ri_iconstN h 0 d_Md_equalTo_84 rfl ?_
    refine ri_iload_n h d_Md_equalTo_85 rfl ?_
    refine ri_dV0_2 (r := (gR6, gT6, 44)) h d_Md_equalTo_86 cv_Md_228 (by first | exact hS.lcO | exact hS.lsO | exact hS.lpO | exact hS.cesO (by first | assumption | omega) | exact hS.cepO (by first | assumption | omega) | exact ⟨_, (by first | assumption | exact hS.st | exact hS.mo | exact hS.out | exact hS.sb | exact hS.ce (by first | assumption | omega) | exact hS.ceb (by first | assumption | omega) | exact hS.sh (by first | assumption | omega) | exact hS.shb (by first | assumption | omega) | exact hS.pl (by first | assumption | omega) | exact hS.plb (by first | assumption | omega) | exact hS.fl (by first | assumption | omega) | exact gup_s | (refine gup_t (by assumption) ?_; first | assumption | exact gup_s | (refine gup_t (by assumption) ?_; first | assumption | exact gup_s | (refine gup_t (by assumption) ?_; first | assumption | exact gup_s))))⟩) rfl (htz) (Nat.le_of_ble_eq_true rfl) (Nat.le_of_ble_eq_true rfl) (Nat.le_of_ble_eq_true rfl) (Nat.le_of_ble_eq_true rfl) (Nat.le_of_ble_eq_true rfl) (fun M hS => ?_)
    obtain ⟨N2, hS, hnt, hf⟩ := hS
    refine ri_iconstN h 0 d_Md_equalTo_89 rfl ?_
    refine ri_istore_n h d_Md_equalTo_90 (Nat.le_of_ble_eq_true rfl) ?_
    exact ri_ls [(0, .ref (ad 30 0)), (1, .int (nI c)), (2, .int (nI (SZ Q (-1) c))), (3, .int (nI 0))] ⟨rfl, rfl, rfl, rfl, trivial⟩ (LC u hu c 0 (by omega) M N2 hS (hm1.ne hnt.1) ((hnz.nt.trans hnt).nx (by decide)) (hnt.2.1.trans hnz.nt.2.1) hf (fun x hx => by omega))
  refine ri_aload_n h d_Md_equalTo_4 rfl ?_
  refine ri_aload_n h d_Md_equalTo_5 rfl ?_
  refine ri_iload_n h d_Md_equalTo_6 rfl ?_
  refine ri_cVv_1 (r := (gR6, gT6, 44)) h d_Md_equalTo_7 cv_Md_121 (by first | exact hS.lcO | exact hS.lsO | exact hS.lpO | exact hS.cesO (by first | assumption | omega) | exact hS.cepO (by first | assumption | omega) | exact ⟨_, (by first | assumption | exact hS.st | exact hS.mo | exact hS.out | exact hS.sb | exact hS.ce (by first | assumption | omega) | exact hS.ceb (by first | assumption | omega) | exact hS.sh (by first | assumption | omega) | exact hS.shb (by first | assumption | omega) | exact hS.pl (by first | assumption | omega) | exact hS.plb (by first | assumption | omega) | exact hS.fl (by first | assumption | omega) | exact gup_s | (refine gup_t (by assumption) ?_; first | assumption | exact gup_s | (refine gup_t (by assumption) ?_; first | assumption | exact gup_s | (refine gup_t (by assumption) ?_; first | assumption | exact gup_s))))⟩) rfl (k_isCell0 h0 hS hm hW) (Nat.le_of_ble_eq_true rfl) (Nat.le_of_ble_eq_true rfl) (Nat.le_of_ble_eq_true rfl) (Nat.le_of_ble_eq_true rfl) (Nat.le_of_ble_eq_true rfl) ?_
  first | refine ri_ifB_eq h 17 d_Md_equalTo_10 (by decide) (fun c_10 => ?_) (fun c_10 => ?_) | refine ri_ifN_eq h 17 d_Md_equalTo_10 (by decide) (by omega) (fun c_10 => ?_) (fun c_10 => ?_) | refine ri_if_eq h 17 d_Md_equalTo_10 (by decide) (fun c_10 => ?_) (fun c_10 => ?_)
  · first
    | (exfalso; first | exact absurd c_10 (by decide) | first | contradiction | omega)
    | (refine ri_iconstN h 1 d_Md_equalTo_17 rfl ?_
       refine ri_pm_code h d_Md_equalTo_18 fl_Md_108 hS (fun M hS => ?_)
       refine ri_iconstN h 0 d_Md_equalTo_21 rfl ?_
       refine ri_istore_n h d_Md_equalTo_22 (Nat.le_of_ble_eq_true rfl) ?_
       exact ri_ls [(0, .ref (ad 30 0)), (1, .int (nI c)), (2, .int (nI 0))] ⟨rfl, rfl, rfl, trivial⟩ (met_1 (N := N.set_l (va_up N.l 28 u)) h0 h hW hS hu hc (fun ⟨x, q1, q2⟩ => absurd (hn x q1) q2) (fun _ M hS => C75 M hS) (c + 1) 0 (by omega) M hS (fun x hx => by omega)))
  · first
    | (exfalso; first | exact absurd c_10 (by decide) | first | contradiction | omega)
    | (refine ri_iconstN h 0 d_Md_equalTo_13 rfl ?_
       refine ri_goto h 18 d_Md_equalTo_14 (by decide) ?_
       refine ri_pm_code h d_Md_equalTo_18 fl_Md_108 hS (fun M hS => ?_)
       refine ri_iconstN h 0 d_Md_equalTo_21 rfl ?_
       refine ri_istore_n h d_Md_equalTo_22 (Nat.le_of_ble_eq_true rfl) ?_
       exact ri_ls [(0, .ref (ad 30 0)), (1, .int (nI c)), (2, .int (nI 0))] ⟨rfl, rfl, rfl, trivial⟩ (met_1 (N := N.set_l (va_up N.l 28 u)) h0 h hW hS hu hc (fun ⟨x, q1, q2⟩ => absurd (hn x q1) q2) (fun _ M hS => C75 M hS) (c + 1) 0 (by omega) M hS (fun x hx => by omega)))
end MET
