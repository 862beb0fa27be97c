/-! box: the model -/
section MBX
variable {l : Launch} {D : gD} {s0 : State} {M : gH} {z : Nat} {ad : gA} {Q Qc : CS} {N : MS}
theorem k_mbox_no1 (h0 : g_0 l D s0) (hS : HS z ad Qc N M) (hm : MR0 Q N) (hW : WB Q) {p v w : Int32} (hn : ¬ ((∃ c, c < Q.nC ∧ p = nI c) ∧ (¬ v < 0 ∧ v < Q.L) ∧ ¬ w < 0 ∧ w ≤ nI 3)) : Ct l D s0 y_Md_box (Cond.code y_Md_box b_Md_box 6 (some .long)) rkM [.ref (ad 30 0), .int p, .int v, .int w] M (fM z ad Qc (some (.long 0)) (fun N' => N' = N.set_code 1)) := by
  refine Ct.of h0 (by decide +kernel) rfl fun X hX h => ?_
  obtain ⟨p_, l', e_, R_, s_, m_, ar_, be_, me_, c_⟩ := X
  obtain rfl : l' = l := hX
  refine ri_aload_n h d_Md_box_0 rfl ?_
  refine ri_aload_n h d_Md_box_1 rfl ?_
  refine ri_iload_n h d_Md_box_2 rfl ?_
  refine ri_cVv_1 (r := (gR6, gT6, 44)) h d_Md_box_3 cv_Md_121 (by first | exact hS.lcO | exact hS.lsO | exact hS.lpO | exact hS.cesO (by first | assumption | omega) | exact hS.cepO (by first | assumption | omega) | exact ⟨_, (by first | assumption | exact hS.st | exact hS.mo | exact hS.out | exact hS.sb | exact hS.ce (by first | assumption | omega) | exact hS.ceb (by first | assumption | omega) | exact hS.sh (by first | assumption | omega) | exact hS.shb (by first | assumption | omega) | exact hS.pl (by first | assumption | omega) | exact hS.plb (by first | assumption | omega) | exact hS.fl (by first | assumption | omega) | exact gup_s | (refine gup_t (by assumption) ?_; first | assumption | exact gup_s | (refine gup_t (by assumption) ?_; first | assumption | exact gup_s | (refine gup_t (by assumption) ?_; first | assumption | exact gup_s))))⟩) rfl (k_isCell0 h0 hS hm hW) (Nat.le_of_ble_eq_true rfl) (Nat.le_of_ble_eq_true rfl) (Nat.le_of_ble_eq_true rfl) (Nat.le_of_ble_eq_true rfl) (Nat.le_of_ble_eq_true rfl) ?_
  first | refine ri_ifB_eq h 26 d_Md_box_6 (by decide) (fun c_6 => ?_) (fun c_6 => ?_) | refine ri_ifN_eq h 26 d_Md_box_6 (by decide) (by omega) (fun c_6 => ?_) (fun c_6 => ?_) | refine ri_if_eq h 26 d_Md_box_6 (by decide) (fun c_6 => ?_) (fun c_6 => ?_)
  · first
    | (exfalso; first | exact absurd c_6 (by decide) | omega)
    | (refine ri_iconstN h 1 d_Md_box_26 rfl ?_
       refine ri_goto h 31 d_Md_box_27 (by decide) ?_
       refine ri_pm_code h d_Md_box_31 fl_Md_108 hS (fun M hS => ?_)
       refine ri_aload_n h d_Md_box_34 rfl ?_
       refine ri_get h d_Md_box_35 fl_Md_108 (by first | assumption | exact hS.mo | exact gup_s) (by rfl) ?_
       try dsimp only [MS.code, MS.set_code]
       first | refine ri_ifN_le h 43 d_Md_box_38 (by decide) (by omega) (fun c_38 => ?_) (fun c_38 => ?_) | refine ri_if_le h 43 d_Md_box_38 (by decide) (fun c_38 => ?_) (fun c_38 => ?_)
       · first
         | (exfalso; first | exact absurd c_38 (by decide) | omega)
         | (omega)
       · first
         | (exfalso; first | exact absurd c_38 (by decide) | omega)
         | (refine ri_lconst h 0 d_Md_box_41 rfl ?_
            refine ri_lreturn h d_Md_box_42 (Nat.le_of_ble_eq_true rfl) (Nat.le_of_ble_eq_true rfl) ?_
            exact ⟨rfl, _, hS, rfl⟩))
  · first
    | (exfalso; first | exact absurd c_6 (by decide) | omega)
    | (refine ri_aload_n h d_Md_box_9 rfl ?_
       refine ri_iload_n h d_Md_box_10 rfl ?_
       refine ri_cVv_1 (r := (gR6, gT6, 44)) h d_Md_box_11 cv_Md_125 (by first | exact hS.lcO | exact hS.lsO | exact hS.lpO | exact hS.cesO (by first | assumption | omega) | exact hS.cepO (by first | assumption | omega) | exact ⟨_, (by first | assumption | exact hS.st | exact hS.mo | exact hS.out | exact hS.sb | exact hS.ce (by first | assumption | omega) | exact hS.ceb (by first | assumption | omega) | exact hS.sh (by first | assumption | omega) | exact hS.shb (by first | assumption | omega) | exact hS.pl (by first | assumption | omega) | exact hS.plb (by first | assumption | omega) | exact hS.fl (by first | assumption | omega) | exact gup_s | (refine gup_t (by assumption) ?_; first | assumption | exact gup_s | (refine gup_t (by assumption) ?_; first | assumption | exact gup_s | (refine gup_t (by assumption) ?_; first | assumption | exact gup_s))))⟩) rfl (k_isLayer0 h0 hS hm) (Nat.le_of_ble_eq_true rfl) (Nat.le_of_ble_eq_true rfl) (Nat.le_of_ble_eq_true rfl) (Nat.le_of_ble_eq_true rfl) (Nat.le_of_ble_eq_true rfl) ?_
       first | refine ri_ifB_eq h 26 d_Md_box_14 (by decide) (fun c_14 => ?_) (fun c_14 => ?_) | refine ri_ifN_eq h 26 d_Md_box_14 (by decide) (by omega) (fun c_14 => ?_) (fun c_14 => ?_) | refine ri_if_eq h 26 d_Md_box_14 (by decide) (fun c_14 => ?_) (fun c_14 => ?_)
       · first
         | (exfalso; first | exact absurd c_14 (by decide) | omega)
         | (refine ri_iconstN h 1 d_Md_box_26 rfl ?_
            refine ri_goto h 31 d_Md_box_27 (by decide) ?_
            refine ri_pm_code h d_Md_box_31 fl_Md_108 hS (fun M hS => ?_)
            refine ri_aload_n h d_Md_box_34 rfl ?_
            refine ri_get h d_Md_box_35 fl_Md_108 (by first | assumption | exact hS.mo | exact gup_s) (by rfl) ?_
            try dsimp only [MS.code, MS.set_code]
            first | refine ri_ifN_le h 43 d_Md_box_38 (by decide) (by omega) (fun c_38 => ?_) (fun c_38 => ?_) | refine ri_if_le h 43 d_Md_box_38 (by decide) (fun c_38 => ?_) (fun c_38 => ?_)
            · first
              | (exfalso; first | exact absurd c_38 (by decide) | omega)
              | (omega)
            · first
              | (exfalso; first | exact absurd c_38 (by decide) | omega)
              | (refine ri_lconst h 0 d_Md_box_41 rfl ?_
                 refine ri_lreturn h d_Md_box_42 (Nat.le_of_ble_eq_true rfl) (Nat.le_of_ble_eq_true rfl) ?_
                 exact ⟨rfl, _, hS, rfl⟩))
       · first
         | (exfalso; first | exact absurd c_14 (by decide) | omega)
         | (refine ri_iload_n h d_Md_box_17 rfl ?_
            refine ri_if_lt h 26 d_Md_box_18 (by decide) (fun c_18 => ?_) (fun c_18 => ?_)
            · first
              | (exfalso; first | exact absurd c_18 (by decide) | omega)
              | (refine ri_iconstN h 1 d_Md_box_26 rfl ?_
                 refine ri_goto h 31 d_Md_box_27 (by decide) ?_
                 refine ri_pm_code h d_Md_box_31 fl_Md_108 hS (fun M hS => ?_)
                 refine ri_aload_n h d_Md_box_34 rfl ?_
                 refine ri_get h d_Md_box_35 fl_Md_108 (by first | assumption | exact hS.mo | exact gup_s) (by rfl) ?_
                 try dsimp only [MS.code, MS.set_code]
                 first | refine ri_ifN_le h 43 d_Md_box_38 (by decide) (by omega) (fun c_38 => ?_) (fun c_38 => ?_) | refine ri_if_le h 43 d_Md_box_38 (by decide) (fun c_38 => ?_) (fun c_38 => ?_)
                 · first
                   | (exfalso; first | exact absurd c_38 (by decide) | omega)
                   | (omega)
                 · first
                   | (exfalso; first | exact absurd c_38 (by decide) | omega)
                   | (refine ri_lconst h 0 d_Md_box_41 rfl ?_
                      refine ri_lreturn h d_Md_box_42 (Nat.le_of_ble_eq_true rfl) (Nat.le_of_ble_eq_true rfl) ?_
                      exact ⟨rfl, _, hS, rfl⟩))
            · first
              | (exfalso; first | exact absurd c_18 (by decide) | omega)
              | (refine ri_iload_n h d_Md_box_21 rfl ?_
                 refine ri_iconstN h 3 d_Md_box_22 rfl ?_
                 refine ri_icmp_le h 30 d_Md_box_23 (by decide) (fun c_23 => ?_) (fun c_23 => ?_)
                 · first
                   | (exfalso; first | exact absurd c_23 (by decide) | omega)
                   | (exact absurd ⟨c_6, c_14, c_18, c_23⟩ hn)
                 · first
                   | (exfalso; first | exact absurd c_23 (by decide) | omega)
                   | (refine ri_iconstN h 1 d_Md_box_26 rfl ?_
                      refine ri_goto h 31 d_Md_box_27 (by decide) ?_
                      refine ri_pm_code h d_Md_box_31 fl_Md_108 hS (fun M hS => ?_)
                      refine ri_aload_n h d_Md_box_34 rfl ?_
                      refine ri_get h d_Md_box_35 fl_Md_108 (by first | assumption | exact hS.mo | exact gup_s) (by rfl) ?_
                      try dsimp only [MS.code, MS.set_code]
                      first | refine ri_ifN_le h 43 d_Md_box_38 (by decide) (by omega) (fun c_38 => ?_) (fun c_38 => ?_) | refine ri_if_le h 43 d_Md_box_38 (by decide) (fun c_38 => ?_) (fun c_38 => ?_)
                      · first
                        | (exfalso; first | exact absurd c_38 (by decide) | omega)
                        | (omega)
                      · first
                        | (exfalso; first | exact absurd c_38 (by decide) | omega)
                        | (refine ri_lconst h 0 d_Md_box_41 rfl ?_
                           refine ri_lreturn h d_Md_box_42 (Nat.le_of_ble_eq_true rfl) (Nat.le_of_ble_eq_true rfl) ?_
                           exact ⟨rfl, _, hS, rfl⟩)))))
abbrev mbP (z : Nat) (ad : gA) (Q Qc : CS) (N : MS) (v : Int32) (c w : Nat) : gR → gH → Prop := fun r M' => ∃ N1, NW (N.set_code 0) N1 ∧ bxR Q v N1 c ∧ ((N1.i 42 c = 1 ∧ r = .inl (some (.long (bside w (bxv N1 c).x0 (bxv N1 c).y0 (bxv N1 c).x1 (bxv N1 c).y1))) ∧ HS z ad Qc (N1.set_code 0) M') ∨ (N1.i 42 c = 0 ∧ r = .inl (some (.long 0)) ∧ HS z ad Qc (N1.set_code 2) M'))
theorem k_mbox (h0 : g_0 l D s0) (hS : HS z ad Qc N M) (hm : MR0 Q N) (hW : WB Q) (hL : WL Q) (hX : WX Q) (hC : WSC Q) (hP : ∀ s, s < Q.nS → WPt (Q.sh s)) {e0 : Nat} (he0 : e0 < Q.nC) {v : Int32} (hv : ¬ v < 0 ∧ v < Q.L) {w : Nat} (hw : w < 4) : Ct l D s0 y_Md_box (Cond.code y_Md_box b_Md_box 6 (some .long)) rkM [.ref (ad 30 0), .int (nI e0), .int v, .int (nI w)] M (mbP z ad Q Qc N v e0 w) := by
  have hm0 : MR0 Q (N.set_code 0) := hm
  have hb1 := hW.1
  have hc' : ∃ c', c' < Q.nC ∧ nI e0 = nI c' := ⟨e0, he0, rfl⟩
  have he20 : e0 < 20 := by omega
  refine Ct.of h0 (by decide +kernel) rfl fun X hX h => ?_
  obtain ⟨p_, l', e_, R_, s_, m_, ar_, be_, me_, c_⟩ := X
  obtain rfl : l' = l := hX
  have LC : ∀ (r : Nat) (kx : ∀ (M : gH) (N1 : MS), HS z ad Qc N1 M → NW (N.set_code 0) N1 → (∀ x, x < 20 → N1.i 42 x = 0 ∨ N1.i 42 x = 1) → (∀ x, x < Q.nC → rho Q x ≤ r + 1 → bxR Q v N1 x) → G (gzz D s0 (p_, l', e_, R_, s_, m_, ar_, be_, me_, c_) rkM (mbP z ad Q Qc N v e0 w) 6) 102 [(0, .ref (ad 30 0)), (1, .int (nI e0)), (2, .int v), (3, .int (nI w)), (4, .int (nI r))] [] M 0 0), ∀ (q c : Nat), c + q = Q.nC → ∀ (M : gH) (N1 : MS), HS z ad Qc N1 M → NW (N.set_code 0) N1 → (∀ x, x < 20 → N1.i 42 x = 0 ∨ N1.i 42 x = 1) → (∀ x, x < Q.nC → (rho Q x ≤ r ∨ (x < c ∧ rho Q x ≤ r + 1)) → bxR Q v N1 x) → G (gzz D s0 (p_, l', e_, R_, s_, m_, ar_, be_, me_, c_) rkM (mbP z ad Q Qc N v e0 w) 6) 80 [(0, .ref (ad 30 0)), (1, .int (nI e0)), (2, .int v), (3, .int (nI w)), (4, .int (nI r)), (5, .int (nI c))] [] M 0 0 := by
    intro r kx q
    induction q with
    | zero =>
      intro c hc M N1 hS hnw h42 hr
      have hm := hm0.ne hnw.1
      refine ri_iload h d_Md_box_80 rfl ?_
      refine ri_aload_n h d_Md_box_82 rfl ?_
      refine ri_get h d_Md_box_83 fl_Md_111 (by first | assumption | exact hS.mo | exact gup_s) (by first | exact congrArg (fun x => some (Value.int (nI x))) hm.nc | rfl) ?_
      first | refine ri_icmpN_ge h 102 d_Md_box_86 (by decide) (by omega) (by omega) (fun c_86 => ?_) (fun c_86 => ?_) | refine ri_icmp_ge h 102 d_Md_box_86 (by decide) (fun c_86 => ?_) (fun c_86 => ?_)
      · first
        | (exfalso; first | exact absurd c_86 (by decide) | omega)
        | (exact ri_ls [(0, .ref (ad 30 0)), (1, .int (nI e0)), (2, .int v), (3, .int (nI w)), (4, .int (nI r))] ⟨rfl, rfl, rfl, rfl, rfl, trivial⟩ (kx M N1 hS hnw h42 (fun x h1 h2 => hr x h1 (Or.inr ⟨by omega, h2⟩))))
      · first
        | (exfalso; first | exact absurd c_86 (by decide) | omega)
        | (omega)
    | succ q ih =>
      intro c hc M N1 hS hnw h42 hr
      have hm := hm0.ne hnw.1
      have hcC : c < Q.nC := by omega
      refine ri_iload h d_Md_box_80 rfl ?_
      refine ri_aload_n h d_Md_box_82 rfl ?_
      refine ri_get h d_Md_box_83 fl_Md_111 (by first | assumption | exact hS.mo | exact gup_s) (by first | exact congrArg (fun x => some (Value.int (nI x))) hm.nc | rfl) ?_
      first | refine ri_icmpN_ge h 102 d_Md_box_86 (by decide) (by omega) (by omega) (fun c_86 => ?_) (fun c_86 => ?_) | refine ri_icmp_ge h 102 d_Md_box_86 (by decide) (fun c_86 => ?_) (fun c_86 => ?_)
      · omega
      · refine ri_aload_n h d_Md_box_89 rfl ?_
        refine ri_iload h d_Md_box_90 rfl ?_
        refine ri_iload_n h d_Md_box_92 rfl ?_
        refine ri_dV0_2 (r := (gR6, gT6, 44)) h d_Md_box_93 cv_Md_221 (by first | exact hS.lcO | exact hS.lsO | exact hS.lpO | exact hS.cesO (by first | assumption | omega) | exact hS.cepO (by first | assumption | omega) | exact ⟨_, (by first | assumption | exact hS.st | exact hS.mo | exact hS.out | exact hS.sb | exact hS.ce (by first | assumption | omega) | exact hS.ceb (by first | assumption | omega) | exact hS.sh (by first | assumption | omega) | exact hS.shb (by first | assumption | omega) | exact hS.pl (by first | assumption | omega) | exact hS.plb (by first | assumption | omega) | exact hS.fl (by first | assumption | omega) | exact gup_s | (refine gup_t (by assumption) ?_; first | assumption | exact gup_s | (refine gup_t (by assumption) ?_; first | assumption | exact gup_s | (refine gup_t (by assumption) ?_; first | assumption | exact gup_s))))⟩) rfl (k_mcellBox h0 hS hm hW hL hX hC hP hcC h42) (Nat.le_of_ble_eq_true rfl) (Nat.le_of_ble_eq_true rfl) (Nat.le_of_ble_eq_true rfl) (Nat.le_of_ble_eq_true rfl) (Nat.le_of_ble_eq_true rfl) (fun M hS => ?_)
        obtain ⟨N2, hS, hnw2, hfr, h01, hrt⟩ := hS
        first | refine ri_iincN h d_Md_box_96 rfl (Nat.le_of_ble_eq_true rfl) ?_ | refine ri_iinc h _ d_Md_box_96 rfl rfl (Nat.le_of_ble_eq_true rfl) ?_
        refine ri_goto h 80 d_Md_box_99 (by decide) ?_
        refine ri_ls [(0, .ref (ad 30 0)), (1, .int (nI e0)), (2, .int v), (3, .int (nI w)), (4, .int (nI r)), (5, .int (nI (c + 1)))] ⟨rfl, rfl, rfl, rfl, rfl, rfl, trivial⟩ (ih (c + 1) (by omega) M N2 hS (hnw.trans hnw2) (fun x hx => ?_) (fun x h1 h2 => ?_))
        · by_cases e : x = c
          · rw [e]; exact h01
          · rw [(hfr x e).2]; exact h42 x hx
        · by_cases e : x = c
          · subst e
            refine hrt (fun p hp => ?_)
            obtain ⟨g1, g2, g3⟩ := hL.mem hcC hp
            exact hr _ g2 (Or.inl (by omega))
          · exact (hr x h1 (by omega)).cong (hfr x e).1
  have LR : ∀ (q r : Nat), r + q = 20 → ∀ (M : gH) (N1 : MS), HS z ad Qc N1 M → NW (N.set_code 0) N1 → (∀ x, x < 20 → N1.i 42 x = 0 ∨ N1.i 42 x = 1) → (∀ x, x < Q.nC → rho Q x ≤ r → bxR Q v N1 x) → G (gzz D s0 (p_, l', e_, R_, s_, m_, ar_, be_, me_, c_) rkM (mbP z ad Q Qc N v e0 w) 6) 70 [(0, .ref (ad 30 0)), (1, .int (nI e0)), (2, .int v), (3, .int (nI w)), (4, .int (nI r))] [] M 0 0 := by
    intro q
    induction q with
    | zero =>
      intro r hr M N1 hS hnw h42 hx
      have hre := rho_lt (c := e0) hW
      have hbx := hx e0 he0 (by omega)
      have h42e := h42 e0 he20
      rcases h42e with h42e | h42e
      · refine ri_iload h d_Md_box_70 rfl ?_
        refine ri_bipushN h 20 d_Md_box_72 rfl ?_
        first | refine ri_icmpN_ge h 108 d_Md_box_74 (by decide) (by omega) (by omega) (fun c_74 => ?_) (fun c_74 => ?_) | refine ri_icmp_ge h 108 d_Md_box_74 (by decide) (fun c_74 => ?_) (fun c_74 => ?_)
        · first
          | (exfalso; first | exact absurd c_74 (by decide) | first | omega | exact absurd h42e c_115)
          | (refine ri_aload_n h d_Md_box_108 rfl ?_
             refine ri_aload_n h d_Md_box_109 rfl ?_
             refine ri_get h d_Md_box_110 fl_Md_97 (by first | assumption | exact hS.mo | exact gup_s) (by rfl) ?_
             refine ri_iload_n h d_Md_box_113 rfl ?_
             refine ri_zaldE h _ d_Md_box_114 (by first | assumption | exact hS.a42) (by first | rfl | assumption) (by first | assumption | omega) (by first | decide | omega) (by first | assumption | assumption | rfl) ?_
             refine ri_if_eq h 122 d_Md_box_115 (by decide) (fun c_115 => ?_) (fun c_115 => ?_)
             · first
               | (exfalso; first | exact absurd c_115 (by decide) | first | omega | exact absurd h42e c_115)
               | (refine ri_iconstN h 2 d_Md_box_122 rfl ?_
                  refine ri_pm_code h d_Md_box_123 fl_Md_108 hS (fun M hS => ?_)
                  refine ri_aload_n h d_Md_box_126 rfl ?_
                  refine ri_get h d_Md_box_127 fl_Md_108 (by first | assumption | exact hS.mo | exact gup_s) (by rfl) ?_
                  try dsimp only [MS.code, MS.set_code]
                  first | refine ri_ifN_le h 137 d_Md_box_130 (by decide) (by omega) (fun c_130 => ?_) (fun c_130 => ?_) | refine ri_if_le h 137 d_Md_box_130 (by decide) (fun c_130 => ?_) (fun c_130 => ?_)
                  · first
                    | (exfalso; first | exact absurd c_130 (by decide) | first | omega | exact absurd h42e c_115)
                    | (omega)
                  · first
                    | (exfalso; first | exact absurd c_130 (by decide) | first | omega | exact absurd h42e c_115)
                    | (refine ri_lconst h 0 d_Md_box_133 rfl ?_
                       refine ri_goto h 147 d_Md_box_134 (by decide) ?_
                       refine ri_lreturn h d_Md_box_147 (Nat.le_of_ble_eq_true rfl) (Nat.le_of_ble_eq_true rfl) ?_
                       exact ⟨N1, hnw, hbx, Or.inr ⟨h42e, rfl, hS⟩⟩))
             · first
               | (exfalso; first | exact absurd c_115 (by decide) | first | omega | exact absurd h42e c_115)
               | (refine ri_iconstN h 0 d_Md_box_118 rfl ?_
                  refine ri_goto h 123 d_Md_box_119 (by decide) ?_
                  refine ri_pm_code h d_Md_box_123 fl_Md_108 hS (fun M hS => ?_)
                  refine ri_aload_n h d_Md_box_126 rfl ?_
                  refine ri_get h d_Md_box_127 fl_Md_108 (by first | assumption | exact hS.mo | exact gup_s) (by rfl) ?_
                  try dsimp only [MS.code, MS.set_code]
                  first | refine ri_ifN_le h 137 d_Md_box_130 (by decide) (by omega) (fun c_130 => ?_) (fun c_130 => ?_) | refine ri_if_le h 137 d_Md_box_130 (by decide) (fun c_130 => ?_) (fun c_130 => ?_)
                  · first
                    | (exfalso; first | exact absurd c_130 (by decide) | first | omega | exact absurd h42e c_115)
                    | (omega)
                  · first
                    | (exfalso; first | exact absurd c_130 (by decide) | first | omega | exact absurd h42e c_115)
                    | (refine ri_lconst h 0 d_Md_box_133 rfl ?_
                       refine ri_goto h 147 d_Md_box_134 (by decide) ?_
                       refine ri_lreturn h d_Md_box_147 (Nat.le_of_ble_eq_true rfl) (Nat.le_of_ble_eq_true rfl) ?_
                       exact ⟨N1, hnw, hbx, Or.inr ⟨h42e, rfl, hS⟩⟩)))
        · first
          | (exfalso; first | exact absurd c_74 (by decide) | first | omega | exact absurd h42e c_115)
          | (omega)
      · have hne : ¬ N1.i 42 e0 = 0 := by rw [h42e]; decide
        have hval : N1.l 41 (4 * e0 + w) = bside w (bxv N1 e0).x0 (bxv N1 e0).y0 (bxv N1 e0).x1 (bxv N1 e0).y1 := by
          rcases (show w = 0 ∨ w = 1 ∨ w = 2 ∨ w = 3 by omega) with rfl | rfl | rfl | rfl <;> rfl
        refine ri_iload h d_Md_box_70 rfl ?_
        refine ri_bipushN h 20 d_Md_box_72 rfl ?_
        first | refine ri_icmpN_ge h 108 d_Md_box_74 (by decide) (by omega) (by omega) (fun c_74 => ?_) (fun c_74 => ?_) | refine ri_icmp_ge h 108 d_Md_box_74 (by decide) (fun c_74 => ?_) (fun c_74 => ?_)
        · first
          | (exfalso; first | exact absurd c_74 (by decide) | first | omega | exact absurd c_115 hne)
          | (refine ri_aload_n h d_Md_box_108 rfl ?_
             refine ri_aload_n h d_Md_box_109 rfl ?_
             refine ri_get h d_Md_box_110 fl_Md_97 (by first | assumption | exact hS.mo | exact gup_s) (by rfl) ?_
             refine ri_iload_n h d_Md_box_113 rfl ?_
             refine ri_zaldE h _ d_Md_box_114 (by first | assumption | exact hS.a42) (by first | rfl | assumption) (by first | assumption | omega) (by first | decide | omega) (by first | assumption | assumption | rfl) ?_
             refine ri_if_eq h 122 d_Md_box_115 (by decide) (fun c_115 => ?_) (fun c_115 => ?_)
             · first
               | (exfalso; first | exact absurd c_115 (by decide) | first | omega | exact absurd c_115 hne)
               | (refine ri_iconstN h 2 d_Md_box_122 rfl ?_
                  refine ri_pm_code h d_Md_box_123 fl_Md_108 hS (fun M hS => ?_)
                  refine ri_aload_n h d_Md_box_126 rfl ?_
                  refine ri_get h d_Md_box_127 fl_Md_108 (by first | assumption | exact hS.mo | exact gup_s) (by rfl) ?_
                  try dsimp only [MS.code, MS.set_code]
                  first | refine ri_ifN_le h 137 d_Md_box_130 (by decide) (by omega) (fun c_130 => ?_) (fun c_130 => ?_) | refine ri_if_le h 137 d_Md_box_130 (by decide) (fun c_130 => ?_) (fun c_130 => ?_)
                  · first
                    | (exfalso; first | exact absurd c_130 (by decide) | first | omega | exact absurd c_115 hne)
                    | (refine ri_aload_n h d_Md_box_137 rfl ?_
                       refine ri_get h d_Md_box_138 fl_Md_94 (by first | assumption | exact hS.mo | exact gup_s) (by rfl) ?_
                       refine ri_iconstN h 4 d_Md_box_141 rfl ?_
                       refine ri_iload_n h d_Md_box_142 rfl ?_
                       first | refine ri_imulN h d_Md_box_143 ?_ | refine ri_imul h d_Md_box_143 ?_
                       refine ri_iload_n h d_Md_box_144 rfl ?_
                       first | refine ri_iaddN h d_Md_box_145 ?_ | refine ri_iadd h d_Md_box_145 ?_
                       refine ri_laldE h _ d_Md_box_146 (by first | assumption | exact hS.a41) (by first | rfl | assumption) (by first | assumption | omega) (by first | decide | omega) (by first | assumption | assumption | rfl) ?_
                       refine ri_lreturn h d_Md_box_147 (Nat.le_of_ble_eq_true rfl) (Nat.le_of_ble_eq_true rfl) ?_
                       exact ⟨N1, hnw, hbx, Or.inl ⟨h42e, rfl, hS⟩⟩)
                  · first
                    | (exfalso; first | exact absurd c_130 (by decide) | first | omega | exact absurd c_115 hne)
                    | (omega))
             · first
               | (exfalso; first | exact absurd c_115 (by decide) | first | omega | exact absurd c_115 hne)
               | (refine ri_iconstN h 0 d_Md_box_118 rfl ?_
                  refine ri_goto h 123 d_Md_box_119 (by decide) ?_
                  refine ri_pm_code h d_Md_box_123 fl_Md_108 hS (fun M hS => ?_)
                  refine ri_aload_n h d_Md_box_126 rfl ?_
                  refine ri_get h d_Md_box_127 fl_Md_108 (by first | assumption | exact hS.mo | exact gup_s) (by rfl) ?_
                  try dsimp only [MS.code, MS.set_code]
                  first | refine ri_ifN_le h 137 d_Md_box_130 (by decide) (by omega) (fun c_130 => ?_) (fun c_130 => ?_) | refine ri_if_le h 137 d_Md_box_130 (by decide) (fun c_130 => ?_) (fun c_130 => ?_)
                  · first
                    | (exfalso; first | exact absurd c_130 (by decide) | first | omega | exact absurd c_115 hne)
                    | (refine ri_aload_n h d_Md_box_137 rfl ?_
                       refine ri_get h d_Md_box_138 fl_Md_94 (by first | assumption | exact hS.mo | exact gup_s) (by rfl) ?_
                       refine ri_iconstN h 4 d_Md_box_141 rfl ?_
                       refine ri_iload_n h d_Md_box_142 rfl ?_
                       first | refine ri_imulN h d_Md_box_143 ?_ | refine ri_imul h d_Md_box_143 ?_
                       refine ri_iload_n h d_Md_box_144 rfl ?_
                       first | refine ri_iaddN h d_Md_box_145 ?_ | refine ri_iadd h d_Md_box_145 ?_
                       refine ri_laldE h _ d_Md_box_146 (by first | assumption | exact hS.a41) (by first | rfl | assumption) (by first | assumption | omega) (by first | decide | omega) (by first | assumption | assumption | rfl) ?_
                       refine ri_lreturn h d_Md_box_147 (Nat.le_of_ble_eq_true rfl) (Nat.le_of_ble_eq_true rfl) ?_
                       exact ⟨N1, hnw, hbx, Or.inl ⟨h42e, rfl, hS⟩⟩)
                  · first
                    | (exfalso; first | exact absurd c_130 (by decide) | first | omega | exact absurd c_115 hne)
                    | (omega)))
        · first
          | (exfalso; first | exact absurd c_74 (by decide) | first | omega | exact absurd c_115 hne)
          | (omega)
    | succ q ih =>
      intro r hr M N1 hS hnw h42 hx
      have K102 : ∀ (M : gH) (N1 : MS), HS z ad Qc N1 M → NW (N.set_code 0) N1 → (∀ x, x < 20 → N1.i 42 x = 0 ∨ N1.i 42 x = 1) → (∀ x, x < Q.nC → rho Q x ≤ r + 1 → bxR Q v N1 x) → G (gzz D s0 (p_, l', e_, R_, s_, m_, ar_, be_, me_, c_) rkM (mbP z ad Q Qc N v e0 w) 6) 102 [(0, .ref (ad 30 0)), (1, .int (nI e0)), (2, .int v), (3, .int (nI w)), (4, .int (nI r))] [] M 0 0 := by
        intro M N1 hS hnw h42 hx
        first | refine ri_iincN h d_Md_box_102 rfl (Nat.le_of_ble_eq_true rfl) ?_ | refine ri_iinc h _ d_Md_box_102 rfl rfl (Nat.le_of_ble_eq_true rfl) ?_
        refine ri_goto h 70 d_Md_box_105 (by decide) ?_
        exact ri_ls [(0, .ref (ad 30 0)), (1, .int (nI e0)), (2, .int v), (3, .int (nI w)), (4, .int (nI (r + 1)))] ⟨rfl, rfl, rfl, rfl, rfl, trivial⟩ (ih (r + 1) (by omega) M N1 hS hnw h42 hx)
      refine ri_iload h d_Md_box_70 rfl ?_
      refine ri_bipushN h 20 d_Md_box_72 rfl ?_
      first | refine ri_icmpN_ge h 108 d_Md_box_74 (by decide) (by omega) (by omega) (fun c_74 => ?_) (fun c_74 => ?_) | refine ri_icmp_ge h 108 d_Md_box_74 (by decide) (fun c_74 => ?_) (fun c_74 => ?_)
      · omega
      · refine ri_iconstN h 0 d_Md_box_77 rfl ?_
        refine ri_istore h d_Md_box_78 (Nat.le_of_ble_eq_true rfl) ?_
        exact ri_ls [(0, .ref (ad 30 0)), (1, .int (nI e0)), (2, .int v), (3, .int (nI w)), (4, .int (nI r)), (5, .int (nI 0))] ⟨rfl, rfl, rfl, rfl, rfl, rfl, trivial⟩ (LC r K102 Q.nC 0 (by omega) M N1 hS hnw h42 (fun x h1 h2 => hx x h1 (by omega)))
  have L1 : ∀ (q i : Nat), i + q = 20 → ∀ (M : gH) (u : Nat → Int32), HS z ad Qc ((N.set_code 0).set_i (va_up N.i 42 u)) M → (∀ x, x < i → u x = 0) → G (gzz D s0 (p_, l', e_, R_, s_, m_, ar_, be_, me_, c_) rkM (mbP z ad Q Qc N v e0 w) 6) 46 [(0, .ref (ad 30 0)), (1, .int (nI e0)), (2, .int v), (3, .int (nI w)), (4, .int (nI i))] [] M 0 0 := by
    intro q
    induction q with
    | zero =>
      intro i hi M u hS hu
      have hnw : NW (N.set_code 0) ((N.set_code 0).set_i (va_up N.i 42 u)) := ⟨NE.i (N := N.set_code 0) 42 (by decide) u, fun _ _ => ⟨rfl, rfl⟩, fun _ _ => ⟨rfl, rfl⟩⟩
      refine ri_iload h d_Md_box_46 rfl ?_
      refine ri_bipushN h 20 d_Md_box_48 rfl ?_
      first | refine ri_icmpN_ge h 67 d_Md_box_50 (by decide) (by omega) (by omega) (fun c_50 => ?_) (fun c_50 => ?_) | refine ri_icmp_ge h 67 d_Md_box_50 (by decide) (fun c_50 => ?_) (fun c_50 => ?_)
      · first
        | (exfalso; first | exact absurd c_50 (by decide) | omega)
        | (refine ri_iconstN h 0 d_Md_box_67 rfl ?_
           refine ri_istore h d_Md_box_68 (Nat.le_of_ble_eq_true rfl) ?_
           exact ri_ls [(0, .ref (ad 30 0)), (1, .int (nI e0)), (2, .int v), (3, .int (nI w)), (4, .int (nI 0))] ⟨rfl, rfl, rfl, rfl, rfl, trivial⟩ (LR 20 0 (by omega) M _ hS hnw (fun x hx => Or.inl (hu x (by omega))) (fun x h1 h2 => absurd h2 (by have := rho_pos h1; omega))))
      · first
        | (exfalso; first | exact absurd c_50 (by decide) | omega)
        | (omega)
    | succ q ih =>
      intro i hi M u hS hu
      refine ri_iload h d_Md_box_46 rfl ?_
      refine ri_bipushN h 20 d_Md_box_48 rfl ?_
      first | refine ri_icmpN_ge h 67 d_Md_box_50 (by decide) (by omega) (by omega) (fun c_50 => ?_) (fun c_50 => ?_) | refine ri_icmp_ge h 67 d_Md_box_50 (by decide) (fun c_50 => ?_) (fun c_50 => ?_)
      · omega
      · refine ri_aload_n h d_Md_box_53 rfl ?_
        refine ri_get h d_Md_box_54 fl_Md_97 (by first | assumption | exact hS.mo | exact gup_s) (by rfl) ?_
        refine ri_iload h d_Md_box_57 rfl ?_
        refine ri_iconstN h 0 d_Md_box_59 rfl ?_
        refine ri_zast h _ d_Md_box_60 (by first | assumption | exact hS.a42) (by first | rfl | assumption) (by first | assumption | omega) (by first | decide | omega) (by first | rfl | exact bI_n | assumption) ?_
        refine ri_gH (hS.set_mb 42 rfl _) (fun M hS => ?_)
        first | refine ri_iincN h d_Md_box_61 rfl (Nat.le_of_ble_eq_true rfl) ?_ | refine ri_iinc h _ d_Md_box_61 rfl rfl (Nat.le_of_ble_eq_true rfl) ?_
        refine ri_goto h 46 d_Md_box_64 (by decide) ?_
        refine ri_ls [(0, .ref (ad 30 0)), (1, .int (nI e0)), (2, .int v), (3, .int (nI w)), (4, .int (nI (i + 1)))] ⟨rfl, rfl, rfl, rfl, rfl, trivial⟩ (ih (i + 1) (by omega) M (va_up u i (nI 0)) (hS.cong rfl (congrArg (fun f => (N.set_code 0).set_i f) va_up_u)) (fun x hx => ?_))
        unfold va_up
        split
        · rfl
        · exact hu x (by omega)
  refine ri_aload_n h d_Md_box_0 rfl ?_
  refine ri_aload_n h d_Md_box_1 rfl ?_
  refine ri_iload_n h d_Md_box_2 rfl ?_
  refine ri_cVv_1 (r := (gR6, gT6, 44)) h d_Md_box_3 cv_Md_121 (by first | exact hS.lcO | exact hS.lsO | exact hS.lpO | exact hS.cesO (by first | assumption | omega) | exact hS.cepO (by first | assumption | omega) | exact ⟨_, (by first | assumption | exact hS.st | exact hS.mo | exact hS.out | exact hS.sb | exact hS.ce (by first | assumption | omega) | exact hS.ceb (by first | assumption | omega) | exact hS.sh (by first | assumption | omega) | exact hS.shb (by first | assumption | omega) | exact hS.pl (by first | assumption | omega) | exact hS.plb (by first | assumption | omega) | exact hS.fl (by first | assumption | omega) | exact gup_s | (refine gup_t (by assumption) ?_; first | assumption | exact gup_s | (refine gup_t (by assumption) ?_; first | assumption | exact gup_s | (refine gup_t (by assumption) ?_; first | assumption | exact gup_s))))⟩) rfl (k_isCell0 h0 hS hm hW) (Nat.le_of_ble_eq_true rfl) (Nat.le_of_ble_eq_true rfl) (Nat.le_of_ble_eq_true rfl) (Nat.le_of_ble_eq_true rfl) (Nat.le_of_ble_eq_true rfl) ?_
  first | refine ri_ifB_eq h 26 d_Md_box_6 (by decide) (fun c_6 => ?_) (fun c_6 => ?_) | refine ri_ifN_eq h 26 d_Md_box_6 (by decide) (by omega) (fun c_6 => ?_) (fun c_6 => ?_) | refine ri_if_eq h 26 d_Md_box_6 (by decide) (fun c_6 => ?_) (fun c_6 => ?_)
  · first
    | (exfalso; first | exact absurd c_6 (by decide) | first | contradiction | omega)
    | (refine ri_iconstN h 1 d_Md_box_26 rfl ?_
       refine ri_goto h 31 d_Md_box_27 (by decide) ?_
       refine ri_pm_code h d_Md_box_31 fl_Md_108 hS (fun M hS => ?_)
       refine ri_aload_n h d_Md_box_34 rfl ?_
       refine ri_get h d_Md_box_35 fl_Md_108 (by first | assumption | exact hS.mo | exact gup_s) (by rfl) ?_
       try dsimp only [MS.code, MS.set_code]
       first | refine ri_ifN_le h 43 d_Md_box_38 (by decide) (by omega) (fun c_38 => ?_) (fun c_38 => ?_) | refine ri_if_le h 43 d_Md_box_38 (by decide) (fun c_38 => ?_) (fun c_38 => ?_)
       · first
         | (exfalso; first | exact absurd c_38 (by decide) | first | contradiction | omega)
         | (refine ri_iconstN h 0 d_Md_box_43 rfl ?_
            refine ri_istore h d_Md_box_44 (Nat.le_of_ble_eq_true rfl) ?_
            exact ri_ls [(0, .ref (ad 30 0)), (1, .int (nI e0)), (2, .int v), (3, .int (nI w)), (4, .int (nI 0))] ⟨rfl, rfl, rfl, rfl, rfl, trivial⟩ (L1 20 0 (by omega) M (N.i 42) (hS.cong rfl (congrArg (fun f => (N.set_code 0).set_i f) va_up_id.symm)) (fun x hx => by omega)))
       · first
         | (exfalso; first | exact absurd c_38 (by decide) | first | contradiction | omega)
         | (refine ri_lconst h 0 d_Md_box_41 rfl ?_
            refine ri_lreturn h d_Md_box_42 (Nat.le_of_ble_eq_true rfl) (Nat.le_of_ble_eq_true rfl) ?_
            exact ⟨rfl, rfl⟩))
  · first
    | (exfalso; first | exact absurd c_6 (by decide) | first | contradiction | omega)
    | (refine ri_aload_n h d_Md_box_9 rfl ?_
       refine ri_iload_n h d_Md_box_10 rfl ?_
       refine ri_cVv_1 (r := (gR6, gT6, 44)) h d_Md_box_11 cv_Md_125 (by first | exact hS.lcO | exact hS.lsO | exact hS.lpO | exact hS.cesO (by first | assumption | omega) | exact hS.cepO (by first | assumption | omega) | exact ⟨_, (by first | assumption | exact hS.st | exact hS.mo | exact hS.out | exact hS.sb | exact hS.ce (by first | assumption | omega) | exact hS.ceb (by first | assumption | omega) | exact hS.sh (by first | assumption | omega) | exact hS.shb (by first | assumption | omega) | exact hS.pl (by first | assumption | omega) | exact hS.plb (by first | assumption | omega) | exact hS.fl (by first | assumption | omega) | exact gup_s | (refine gup_t (by assumption) ?_; first | assumption | exact gup_s | (refine gup_t (by assumption) ?_; first | assumption | exact gup_s | (refine gup_t (by assumption) ?_; first | assumption | exact gup_s))))⟩) rfl (k_isLayer0 h0 hS hm) (Nat.le_of_ble_eq_true rfl) (Nat.le_of_ble_eq_true rfl) (Nat.le_of_ble_eq_true rfl) (Nat.le_of_ble_eq_true rfl) (Nat.le_of_ble_eq_true rfl) ?_
       first | refine ri_ifB_eq h 26 d_Md_box_14 (by decide) (fun c_14 => ?_) (fun c_14 => ?_) | refine ri_ifN_eq h 26 d_Md_box_14 (by decide) (by omega) (fun c_14 => ?_) (fun c_14 => ?_) | refine ri_if_eq h 26 d_Md_box_14 (by decide) (fun c_14 => ?_) (fun c_14 => ?_)
       · first
         | (exfalso; first | exact absurd c_14 (by decide) | first | contradiction | omega)
         | (refine ri_iconstN h 1 d_Md_box_26 rfl ?_
            refine ri_goto h 31 d_Md_box_27 (by decide) ?_
            refine ri_pm_code h d_Md_box_31 fl_Md_108 hS (fun M hS => ?_)
            refine ri_aload_n h d_Md_box_34 rfl ?_
            refine ri_get h d_Md_box_35 fl_Md_108 (by first | assumption | exact hS.mo | exact gup_s) (by rfl) ?_
            try dsimp only [MS.code, MS.set_code]
            first | refine ri_ifN_le h 43 d_Md_box_38 (by decide) (by omega) (fun c_38 => ?_) (fun c_38 => ?_) | refine ri_if_le h 43 d_Md_box_38 (by decide) (fun c_38 => ?_) (fun c_38 => ?_)
            · first
              | (exfalso; first | exact absurd c_38 (by decide) | first | contradiction | omega)
              | (refine ri_iconstN h 0 d_Md_box_43 rfl ?_
                 refine ri_istore h d_Md_box_44 (Nat.le_of_ble_eq_true rfl) ?_
                 exact ri_ls [(0, .ref (ad 30 0)), (1, .int (nI e0)), (2, .int v), (3, .int (nI w)), (4, .int (nI 0))] ⟨rfl, rfl, rfl, rfl, rfl, trivial⟩ (L1 20 0 (by omega) M (N.i 42) (hS.cong rfl (congrArg (fun f => (N.set_code 0).set_i f) va_up_id.symm)) (fun x hx => by omega)))
            · first
              | (exfalso; first | exact absurd c_38 (by decide) | first | contradiction | omega)
              | (refine ri_lconst h 0 d_Md_box_41 rfl ?_
                 refine ri_lreturn h d_Md_box_42 (Nat.le_of_ble_eq_true rfl) (Nat.le_of_ble_eq_true rfl) ?_
                 exact ⟨rfl, rfl⟩))
       · first
         | (exfalso; first | exact absurd c_14 (by decide) | first | contradiction | omega)
         | (refine ri_iload_n h d_Md_box_17 rfl ?_
            refine ri_ifM_lt h 26 d_Md_box_18 (by decide) (by omega) (fun c_18 => ?_) (fun c_18 => ?_)
            · exact c_18.elim
            · first
              | (exfalso; first | exact absurd c_18 (by decide) | first | contradiction | omega)
              | (refine ri_iload_n h d_Md_box_21 rfl ?_
                 refine ri_iconstN h 3 d_Md_box_22 rfl ?_
                 first | refine ri_icmpN_le h 30 d_Md_box_23 (by decide) (by omega) (by omega) (fun c_23 => ?_) (fun c_23 => ?_) | refine ri_icmp_le h 30 d_Md_box_23 (by decide) (fun c_23 => ?_) (fun c_23 => ?_)
                 · first
                   | (exfalso; first | exact absurd c_23 (by decide) | first | contradiction | omega)
                   | (refine ri_iconstN h 0 d_Md_box_30 rfl ?_
                      refine ri_pm_code h d_Md_box_31 fl_Md_108 hS (fun M hS => ?_)
                      refine ri_aload_n h d_Md_box_34 rfl ?_
                      refine ri_get h d_Md_box_35 fl_Md_108 (by first | assumption | exact hS.mo | exact gup_s) (by rfl) ?_
                      try dsimp only [MS.code, MS.set_code]
                      first | refine ri_ifN_le h 43 d_Md_box_38 (by decide) (by omega) (fun c_38 => ?_) (fun c_38 => ?_) | refine ri_if_le h 43 d_Md_box_38 (by decide) (fun c_38 => ?_) (fun c_38 => ?_)
                      · first
                        | (exfalso; first | exact absurd c_38 (by decide) | first | contradiction | omega)
                        | (refine ri_iconstN h 0 d_Md_box_43 rfl ?_
                           refine ri_istore h d_Md_box_44 (Nat.le_of_ble_eq_true rfl) ?_
                           exact ri_ls [(0, .ref (ad 30 0)), (1, .int (nI e0)), (2, .int v), (3, .int (nI w)), (4, .int (nI 0))] ⟨rfl, rfl, rfl, rfl, rfl, trivial⟩ (L1 20 0 (by omega) M (N.i 42) (hS.cong rfl (congrArg (fun f => (N.set_code 0).set_i f) va_up_id.symm)) (fun x hx => by omega)))
                      · first
                        | (exfalso; first | exact absurd c_38 (by decide) | first | contradiction | omega)
                        | (refine ri_lconst h 0 d_Md_box_41 rfl ?_
                           refine ri_lreturn h d_Md_box_42 (Nat.le_of_ble_eq_true rfl) (Nat.le_of_ble_eq_true rfl) ?_
                           exact ⟨rfl, rfl⟩))
                 · first
                   | (exfalso; first | exact absurd c_23 (by decide) | first | contradiction | omega)
                   | (refine ri_iconstN h 1 d_Md_box_26 rfl ?_
                      refine ri_goto h 31 d_Md_box_27 (by decide) ?_
                      refine ri_pm_code h d_Md_box_31 fl_Md_108 hS (fun M hS => ?_)
                      refine ri_aload_n h d_Md_box_34 rfl ?_
                      refine ri_get h d_Md_box_35 fl_Md_108 (by first | assumption | exact hS.mo | exact gup_s) (by rfl) ?_
                      try dsimp only [MS.code, MS.set_code]
                      first | refine ri_ifN_le h 43 d_Md_box_38 (by decide) (by omega) (fun c_38 => ?_) (fun c_38 => ?_) | refine ri_if_le h 43 d_Md_box_38 (by decide) (fun c_38 => ?_) (fun c_38 => ?_)
                      · first
                        | (exfalso; first | exact absurd c_38 (by decide) | first | contradiction | omega)
                        | (refine ri_iconstN h 0 d_Md_box_43 rfl ?_
                           refine ri_istore h d_Md_box_44 (Nat.le_of_ble_eq_true rfl) ?_
                           exact ri_ls [(0, .ref (ad 30 0)), (1, .int (nI e0)), (2, .int v), (3, .int (nI w)), (4, .int (nI 0))] ⟨rfl, rfl, rfl, rfl, rfl, trivial⟩ (L1 20 0 (by omega) M (N.i 42) (hS.cong rfl (congrArg (fun f => (N.set_code 0).set_i f) va_up_id.symm)) (fun x hx => by omega)))
                      · first
                        | (exfalso; first | exact absurd c_38 (by decide) | first | contradiction | omega)
                        | (refine ri_lconst h 0 d_Md_box_41 rfl ?_
                           refine ri_lreturn h d_Md_box_42 (Nat.le_of_ble_eq_true rfl) (Nat.le_of_ble_eq_true rfl) ?_
                           exact ⟨rfl, rfl⟩)))))
end MBX
