/-! find -/
/-- the box of a flat shape -/
def itb (Q : CS) (t : It) : BxR := bbecome (Q.sh t.1).bx t.2.1 t.2.2.1 t.2.2.2
def fnd (Q : CS) (u v w x : Int64) (t : It) : Bool := decide (btch (itb Q t).x0 (itb Q t).y0 (itb Q t).x1 (itb Q t).y1 u v w x = 1)
theorem itb_h {Q : CS} (hX : WX Q) {t : It} (hs : t.1 < Q.nS) (ht : t.2.1 < 8) (hXb : Big t.2.2.1) (hYb : Big t.2.2.2) {lay : Int32} (hon : onB (Q.sh t.1) lay = true) : HB (itb Q t) (IPt Q t) := by
  obtain ⟨-, h1, h2, h3⟩ := hX _ hs
  obtain ⟨x, y, hp⟩ := h3 lay hon
  exact h1.turn (h1.ne hp) h2 (by omega) ht ⟨by omega, by omega⟩ ⟨by omega, by omega⟩
section FIN
variable {l : Launch} {D : gD} {s0 : State} {M : gH} {z : Nat} {ad : gA} {Q Qc : CS} {N : MS}
abbrev findB (x0 y0 x1 y1 : Int64) : Prop := nearB x0 ∧ nearB y0 ∧ nearB x1 ∧ nearB y1 ∧ ¬ x1 < x0 ∧ y0 ≤ y1
theorem k_find_no1 (h0 : g_0 l D s0) (hS : HS z ad Q N M) (hW : WB Q) {p : Int32} {x0 y0 x1 y1 : Int64} (hp : ¬ ∃ c, c < Q.nC ∧ p = nI c) : Ct l D s0 y_ST_find (Cond.code y_ST_find b_ST_find 13 (some .int)) rkC [.ref (ad 0 0), .int p, .long x0, .long y0, .long x1, .long y1] M (fE eIO M) := by
  refine Ct.of h0 (by decide +kernel) rfl fun X hX h => ?_
  obtain ⟨p_, l', e_, R_, s_, m_, ar_, be_, me_, c_⟩ := X
  obtain rfl : l' = l := hX
  refine ri_aload_n h d_ST_find_0 rfl ?_
  refine ri_iload_n h d_ST_find_1 rfl ?_
  refine ri_eV_1 (r := (gR5, gT5, 8)) h d_ST_find_2 cv_ST_74 (by first | exact hS.lcO | exact hS.lsO | exact hS.lpO | exact hS.cesO (by first | assumption | omega) | exact hS.cepO (by first | assumption | omega) | exact ⟨_, (by first | assumption | exact hS.st | exact hS.mo | exact hS.out | exact hS.sb | exact hS.ce (by first | assumption | omega) | exact hS.ceb (by first | assumption | omega) | exact hS.sh (by first | assumption | omega) | exact hS.shb (by first | assumption | omega) | exact hS.pl (by first | assumption | omega) | exact hS.plb (by first | assumption | omega) | exact hS.fl (by first | assumption | omega) | exact gup_s | (refine gup_t (by assumption) ?_; first | assumption | exact gup_s | (refine gup_t (by assumption) ?_; first | assumption | exact gup_s | (refine gup_t (by assumption) ?_; first | assumption | exact gup_s))))⟩) rfl (k_known_no h0 hS hW hp) (Nat.le_of_ble_eq_true rfl) (Nat.le_of_ble_eq_true rfl) (Nat.le_of_ble_eq_true rfl) (Nat.le_of_ble_eq_true rfl) (Nat.le_of_ble_eq_true rfl) ?_
  exact ⟨rfl, rfl⟩
theorem k_find_no2 (h0 : g_0 l D s0) (hS : HS z ad Q N M) (hW : WB Q) {c : Nat} (hc : c < Q.nC) {x0 y0 x1 y1 : Int64} (hn : ¬ findB x0 y0 x1 y1) : Ct l D s0 y_ST_find (Cond.code y_ST_find b_ST_find 13 (some .int)) rkC [.ref (ad 0 0), .int (nI c), .long x0, .long y0, .long x1, .long y1] M (fE eIA M) := by
  refine Ct.of h0 (by decide +kernel) rfl fun X hX h => ?_
  obtain ⟨p_, l', e_, R_, s_, m_, ar_, be_, me_, c_⟩ := X
  obtain rfl : l' = l := hX
  refine ri_aload_n h d_ST_find_0 rfl ?_
  refine ri_iload_n h d_ST_find_1 rfl ?_
  refine ri_cVv_1 (r := (gR5, gT5, 8)) h d_ST_find_2 cv_ST_74 (by first | exact hS.lcO | exact hS.lsO | exact hS.lpO | exact hS.cesO (by first | assumption | omega) | exact hS.cepO (by first | assumption | omega) | exact ⟨_, (by first | assumption | exact hS.st | exact hS.mo | exact hS.out | exact hS.sb | exact hS.ce (by first | assumption | omega) | exact hS.ceb (by first | assumption | omega) | exact hS.sh (by first | assumption | omega) | exact hS.shb (by first | assumption | omega) | exact hS.pl (by first | assumption | omega) | exact hS.plb (by first | assumption | omega) | exact hS.fl (by first | assumption | omega) | exact gup_s | (refine gup_t (by assumption) ?_; first | assumption | exact gup_s | (refine gup_t (by assumption) ?_; first | assumption | exact gup_s | (refine gup_t (by assumption) ?_; first | assumption | exact gup_s))))⟩) rfl (k_known_ok h0 hS hW hc) (Nat.le_of_ble_eq_true rfl) (Nat.le_of_ble_eq_true rfl) (Nat.le_of_ble_eq_true rfl) (Nat.le_of_ble_eq_true rfl) (Nat.le_of_ble_eq_true rfl) ?_
  by_cases h1 : nearB x0
  · by_cases h2 : nearB y0
    · by_cases h3 : nearB x1
      · by_cases h4 : nearB y1
        · refine ri_astore h d_ST_find_5 (Nat.le_of_ble_eq_true rfl) ?_
          refine ri_lload_n h d_ST_find_7 rfl ?_
          refine ri_cS0_1 h d_ST_find_8 cs_ST_115 (k_near_ok h0 (by assumption)) (Nat.le_of_ble_eq_true rfl) (Nat.le_of_ble_eq_true rfl) (Nat.le_of_ble_eq_true rfl) (Nat.le_of_ble_eq_true rfl) (Nat.le_of_ble_eq_true rfl) ?_
          refine ri_lload h d_ST_find_11 rfl ?_
          refine ri_cS0_1 h d_ST_find_13 cs_ST_115 (k_near_ok h0 (by assumption)) (Nat.le_of_ble_eq_true rfl) (Nat.le_of_ble_eq_true rfl) (Nat.le_of_ble_eq_true rfl) (Nat.le_of_ble_eq_true rfl) (Nat.le_of_ble_eq_true rfl) ?_
          refine ri_lload h d_ST_find_16 rfl ?_
          refine ri_cS0_1 h d_ST_find_18 cs_ST_115 (k_near_ok h0 (by assumption)) (Nat.le_of_ble_eq_true rfl) (Nat.le_of_ble_eq_true rfl) (Nat.le_of_ble_eq_true rfl) (Nat.le_of_ble_eq_true rfl) (Nat.le_of_ble_eq_true rfl) ?_
          refine ri_lload h d_ST_find_21 rfl ?_
          refine ri_cS0_1 h d_ST_find_23 cs_ST_115 (k_near_ok h0 (by assumption)) (Nat.le_of_ble_eq_true rfl) (Nat.le_of_ble_eq_true rfl) (Nat.le_of_ble_eq_true rfl) (Nat.le_of_ble_eq_true rfl) (Nat.le_of_ble_eq_true rfl) ?_
          refine ri_lload_n h d_ST_find_26 rfl ?_
          refine ri_lload h d_ST_find_27 rfl ?_
          refine ri_lcmp_gt h 41 d_ST_find_29 d_ST_find_30 (by decide) (fun c_29 => ?_) (fun c_29 => ?_)
          · refine ri_throw h tw_212 d_ST_find_41 d_ST_find_44 d_ST_find_45 d_ST_find_47 d_ST_find_50 (Nat.le_of_ble_eq_true rfl) (Nat.le_of_ble_eq_true rfl) (Nat.le_of_ble_eq_true rfl) (Nat.le_of_ble_eq_true rfl) ?_
            exact ⟨rfl, rfl⟩
          · refine ri_lload h d_ST_find_33 rfl ?_
            refine ri_lload h d_ST_find_35 rfl ?_
            refine ri_lcmp_le h 51 d_ST_find_37 d_ST_find_38 (by decide) (fun c_37 => ?_) (fun c_37 => ?_)
            · exact absurd ⟨h1, h2, h3, h4, c_29, c_37⟩ hn
            · refine ri_throw h tw_212 d_ST_find_41 d_ST_find_44 d_ST_find_45 d_ST_find_47 d_ST_find_50 (Nat.le_of_ble_eq_true rfl) (Nat.le_of_ble_eq_true rfl) (Nat.le_of_ble_eq_true rfl) (Nat.le_of_ble_eq_true rfl) ?_
              exact ⟨rfl, rfl⟩
        · refine ri_astore h d_ST_find_5 (Nat.le_of_ble_eq_true rfl) ?_
          refine ri_lload_n h d_ST_find_7 rfl ?_
          refine ri_cS0_1 h d_ST_find_8 cs_ST_115 (k_near_ok h0 (by assumption)) (Nat.le_of_ble_eq_true rfl) (Nat.le_of_ble_eq_true rfl) (Nat.le_of_ble_eq_true rfl) (Nat.le_of_ble_eq_true rfl) (Nat.le_of_ble_eq_true rfl) ?_
          refine ri_lload h d_ST_find_11 rfl ?_
          refine ri_cS0_1 h d_ST_find_13 cs_ST_115 (k_near_ok h0 (by assumption)) (Nat.le_of_ble_eq_true rfl) (Nat.le_of_ble_eq_true rfl) (Nat.le_of_ble_eq_true rfl) (Nat.le_of_ble_eq_true rfl) (Nat.le_of_ble_eq_true rfl) ?_
          refine ri_lload h d_ST_find_16 rfl ?_
          refine ri_cS0_1 h d_ST_find_18 cs_ST_115 (k_near_ok h0 (by assumption)) (Nat.le_of_ble_eq_true rfl) (Nat.le_of_ble_eq_true rfl) (Nat.le_of_ble_eq_true rfl) (Nat.le_of_ble_eq_true rfl) (Nat.le_of_ble_eq_true rfl) ?_
          refine ri_lload h d_ST_find_21 rfl ?_
          refine ri_eS_1 h d_ST_find_23 cs_ST_115 (k_near_no h0 h4) (Nat.le_of_ble_eq_true rfl) (Nat.le_of_ble_eq_true rfl) (Nat.le_of_ble_eq_true rfl) (Nat.le_of_ble_eq_true rfl) (Nat.le_of_ble_eq_true rfl) ?_
          exact ⟨rfl, rfl⟩
      · refine ri_astore h d_ST_find_5 (Nat.le_of_ble_eq_true rfl) ?_
        refine ri_lload_n h d_ST_find_7 rfl ?_
        refine ri_cS0_1 h d_ST_find_8 cs_ST_115 (k_near_ok h0 (by assumption)) (Nat.le_of_ble_eq_true rfl) (Nat.le_of_ble_eq_true rfl) (Nat.le_of_ble_eq_true rfl) (Nat.le_of_ble_eq_true rfl) (Nat.le_of_ble_eq_true rfl) ?_
        refine ri_lload h d_ST_find_11 rfl ?_
        refine ri_cS0_1 h d_ST_find_13 cs_ST_115 (k_near_ok h0 (by assumption)) (Nat.le_of_ble_eq_true rfl) (Nat.le_of_ble_eq_true rfl) (Nat.le_of_ble_eq_true rfl) (Nat.le_of_ble_eq_true rfl) (Nat.le_of_ble_eq_true rfl) ?_
        refine ri_lload h d_ST_find_16 rfl ?_
        refine ri_eS_1 h d_ST_find_18 cs_ST_115 (k_near_no h0 h3) (Nat.le_of_ble_eq_true rfl) (Nat.le_of_ble_eq_true rfl) (Nat.le_of_ble_eq_true rfl) (Nat.le_of_ble_eq_true rfl) (Nat.le_of_ble_eq_true rfl) ?_
        exact ⟨rfl, rfl⟩
    · refine ri_astore h d_ST_find_5 (Nat.le_of_ble_eq_true rfl) ?_
      refine ri_lload_n h d_ST_find_7 rfl ?_
      refine ri_cS0_1 h d_ST_find_8 cs_ST_115 (k_near_ok h0 (by assumption)) (Nat.le_of_ble_eq_true rfl) (Nat.le_of_ble_eq_true rfl) (Nat.le_of_ble_eq_true rfl) (Nat.le_of_ble_eq_true rfl) (Nat.le_of_ble_eq_true rfl) ?_
      refine ri_lload h d_ST_find_11 rfl ?_
      refine ri_eS_1 h d_ST_find_13 cs_ST_115 (k_near_no h0 h2) (Nat.le_of_ble_eq_true rfl) (Nat.le_of_ble_eq_true rfl) (Nat.le_of_ble_eq_true rfl) (Nat.le_of_ble_eq_true rfl) (Nat.le_of_ble_eq_true rfl) ?_
      exact ⟨rfl, rfl⟩
  · refine ri_astore h d_ST_find_5 (Nat.le_of_ble_eq_true rfl) ?_
    refine ri_lload_n h d_ST_find_7 rfl ?_
    refine ri_eS_1 h d_ST_find_8 cs_ST_115 (k_near_no h0 h1) (Nat.le_of_ble_eq_true rfl) (Nat.le_of_ble_eq_true rfl) (Nat.le_of_ble_eq_true rfl) (Nat.le_of_ble_eq_true rfl) (Nat.le_of_ble_eq_true rfl) ?_
    exact ⟨rfl, rfl⟩
theorem k_find_no3 (h0 : g_0 l D s0) (hS : HS z ad Q N M) (hW : WB Q) (hL : WL Q) (hX : WX Q) (hme : ∀ x, (Q.ce x).meas = 0 ∨ (Q.ce x).meas = 1) {c : Nat} (hc : c < Q.nC) {x0 y0 x1 y1 : Int64} (hf : findB x0 y0 x1 y1) (hn : ¬ SZ Q (-1) c ≤ 3000) : Ct l D s0 y_ST_find (Cond.code y_ST_find b_ST_find 13 (some .int)) rkC [.ref (ad 0 0), .int (nI c), .long x0, .long y0, .long x1, .long y1] M (fEM z ad Q N eUO) := by
  obtain ⟨f1, f2, f3, f4, f5, f6⟩ := hf
  refine Ct.of h0 (by decide +kernel) rfl fun X hX h => ?_
  obtain ⟨p_, l', e_, R_, s_, m_, ar_, be_, me_, c_⟩ := X
  obtain rfl : l' = l := hX
  refine ri_aload_n h d_ST_find_0 rfl ?_
  refine ri_iload_n h d_ST_find_1 rfl ?_
  refine ri_cVv_1 (r := (gR5, gT5, 8)) h d_ST_find_2 cv_ST_74 (by first | exact hS.lcO | exact hS.lsO | exact hS.lpO | exact hS.cesO (by first | assumption | omega) | exact hS.cepO (by first | assumption | omega) | exact ⟨_, (by first | assumption | exact hS.st | exact hS.mo | exact hS.out | exact hS.sb | exact hS.ce (by first | assumption | omega) | exact hS.ceb (by first | assumption | omega) | exact hS.sh (by first | assumption | omega) | exact hS.shb (by first | assumption | omega) | exact hS.pl (by first | assumption | omega) | exact hS.plb (by first | assumption | omega) | exact hS.fl (by first | assumption | omega) | exact gup_s | (refine gup_t (by assumption) ?_; first | assumption | exact gup_s | (refine gup_t (by assumption) ?_; first | assumption | exact gup_s | (refine gup_t (by assumption) ?_; first | assumption | exact gup_s))))⟩) rfl (k_known_ok h0 hS hW hc) (Nat.le_of_ble_eq_true rfl) (Nat.le_of_ble_eq_true rfl) (Nat.le_of_ble_eq_true rfl) (Nat.le_of_ble_eq_true rfl) (Nat.le_of_ble_eq_true rfl) ?_
  refine ri_astore h d_ST_find_5 (Nat.le_of_ble_eq_true rfl) ?_
  refine ri_lload_n h d_ST_find_7 rfl ?_
  refine ri_cS0_1 h d_ST_find_8 cs_ST_115 (k_near_ok h0 (by assumption)) (Nat.le_of_ble_eq_true rfl) (Nat.le_of_ble_eq_true rfl) (Nat.le_of_ble_eq_true rfl) (Nat.le_of_ble_eq_true rfl) (Nat.le_of_ble_eq_true rfl) ?_
  refine ri_lload h d_ST_find_11 rfl ?_
  refine ri_cS0_1 h d_ST_find_13 cs_ST_115 (k_near_ok h0 (by assumption)) (Nat.le_of_ble_eq_true rfl) (Nat.le_of_ble_eq_true rfl) (Nat.le_of_ble_eq_true rfl) (Nat.le_of_ble_eq_true rfl) (Nat.le_of_ble_eq_true rfl) ?_
  refine ri_lload h d_ST_find_16 rfl ?_
  refine ri_cS0_1 h d_ST_find_18 cs_ST_115 (k_near_ok h0 (by assumption)) (Nat.le_of_ble_eq_true rfl) (Nat.le_of_ble_eq_true rfl) (Nat.le_of_ble_eq_true rfl) (Nat.le_of_ble_eq_true rfl) (Nat.le_of_ble_eq_true rfl) ?_
  refine ri_lload h d_ST_find_21 rfl ?_
  refine ri_cS0_1 h d_ST_find_23 cs_ST_115 (k_near_ok h0 (by assumption)) (Nat.le_of_ble_eq_true rfl) (Nat.le_of_ble_eq_true rfl) (Nat.le_of_ble_eq_true rfl) (Nat.le_of_ble_eq_true rfl) (Nat.le_of_ble_eq_true rfl) ?_
  refine ri_lload_n h d_ST_find_26 rfl ?_
  refine ri_lload h d_ST_find_27 rfl ?_
  refine ri_lcmp_gt h 41 d_ST_find_29 d_ST_find_30 (by decide) (fun c_29 => ?_) (fun c_29 => ?_)
  · contradiction
  · refine ri_lload h d_ST_find_33 rfl ?_
    refine ri_lload h d_ST_find_35 rfl ?_
    refine ri_lcmp_le h 51 d_ST_find_37 d_ST_find_38 (by decide) (fun c_37 => ?_) (fun c_37 => ?_)
    · refine ri_aload_n h d_ST_find_51 rfl ?_
      refine ri_iconst h (-1) d_ST_find_52 rfl ?_
      refine ri_dV0_1 (r := (gR5, gT5, 8)) h d_ST_find_53 cv_ST_160 (by first | exact hS.lcO | exact hS.lsO | exact hS.lpO | exact hS.cesO (by first | assumption | omega) | exact hS.cepO (by first | assumption | omega) | exact ⟨_, (by first | assumption | exact hS.st | exact hS.mo | exact hS.out | exact hS.sb | exact hS.ce (by first | assumption | omega) | exact hS.ceb (by first | assumption | omega) | exact hS.sh (by first | assumption | omega) | exact hS.shb (by first | assumption | omega) | exact hS.pl (by first | assumption | omega) | exact hS.plb (by first | assumption | omega) | exact hS.fl (by first | assumption | omega) | exact gup_s | (refine gup_t (by assumption) ?_; first | assumption | exact gup_s | (refine gup_t (by assumption) ?_; first | assumption | exact gup_s | (refine gup_t (by assumption) ?_; first | assumption | exact gup_s))))⟩) rfl (k_measureCells h0 hW hL hX hme hS) (Nat.le_of_ble_eq_true rfl) (Nat.le_of_ble_eq_true rfl) (Nat.le_of_ble_eq_true rfl) (Nat.le_of_ble_eq_true rfl) (Nat.le_of_ble_eq_true rfl) (fun M hS => ?_)
      obtain ⟨m, sz, b, pb, hS, h01, hdn⟩ := hS
      have d1 := (hdn c hc).1
      refine ri_aload h d_ST_find_56 rfl ?_
      refine ri_eS_1 h d_ST_find_58 cs_ST_174 (k_few_no h0 hS hc (show ¬ sz c ≤ 3000 by omega) (show sz c ≤ 5000 by omega)) (Nat.le_of_ble_eq_true rfl) (Nat.le_of_ble_eq_true rfl) (Nat.le_of_ble_eq_true rfl) (Nat.le_of_ble_eq_true rfl) (Nat.le_of_ble_eq_true rfl) ?_
      exact ⟨rfl, m, sz, b, pb, hS, h01⟩
    · contradiction
theorem k_find_ok (h0 : g_0 l D s0) (hS : HS z ad Q N M) (hW : WB Q) (hL : WL Q) (hX : WX Q) (hC : WSC Q) (hT : WTQ Q) (hme : ∀ x, (Q.ce x).meas = 0 ∨ (Q.ce x).meas = 1) {c : Nat} (hc : c < Q.nC) {x0 y0 x1 y1 : Int64} (hf : findB x0 y0 x1 y1) (hn : SZ Q (-1) c ≤ 3000) : Ct l D s0 y_ST_find (Cond.code y_ST_find b_ST_find 13 (some .int)) rkC [.ref (ad 0 0), .int (nI c), .long x0, .long y0, .long x1, .long y1] M (fS (some (.int (nI ((FLn Q (-1) 21 c (0, 0, 0)).filter (fnd Q x0 y0 x1 y1)).length))) (fun M' => ∃ (m : Nat → Int32) (sz : Nat → Nat) (b pb : Nat → BxR) (r : FlR) (sb : BxR), HS z ad ((lq Q m sz b pb 1 r).set_sb sb) N M' ∧ (∀ x, m x = 0 ∨ m x = 1) ∧ ∀ i s, r.sh i = some s → s < Q.nS)) := by
  obtain ⟨f1, f2, f3, f4, f5, f6⟩ := hf
  have hlen : (FLn Q (-1) 21 c (0, 0, 0)).length ≤ 3000 := by rw [FLn_len hL hW 21 c _ hc (rho_lt hW)]; exact hn
  refine Ct.of h0 (by decide +kernel) rfl fun X hX h => ?_
  obtain ⟨p_, l', e_, R_, s_, m_, ar_, be_, me_, c_⟩ := X
  obtain rfl : l' = l := hX
  have LP : ∀ (m : Nat → Int32) (sz : Nat → Nat) (b pb : Nat → BxR) (r : FlR) (cl sl : Nat), (∀ x, m x = 0 ∨ m x = 1) → cLs Q r (FLn Q (-1) 21 c (0, 0, 0)) → (∀ i s, r.sh i = some s → s < Q.nS) → cl ≤ 60 → sl ≤ 8000 → ∀ (q i : Nat), i + q = (FLn Q (-1) 21 c (0, 0, 0)).length → ∀ (M : gH) (sb : BxR), HS z ad ((lq Q m sz b pb 1 r).set_sb sb) N M → G (gzz D s0 (p_, l', e_, R_, s_, m_, ar_, be_, me_, c_) rkC (fS (some (.int (nI ((FLn Q (-1) 21 c (0, 0, 0)).filter (fnd Q x0 y0 x1 y1)).length))) (fun M' => ∃ (m : Nat → Int32) (sz : Nat → Nat) (b pb : Nat → BxR) (r : FlR) (sb : BxR), HS z ad ((lq Q m sz b pb 1 r).set_sb sb) N M' ∧ (∀ x, m x = 0 ∨ m x = 1) ∧ ∀ i s, r.sh i = some s → s < Q.nS)) 13) 77 [(0, .ref (ad 0 0)), (2, .long x0), (4, .long y0), (6, .long x1), (8, .long y1), (11, .int (nI (((FLn Q (-1) 21 c (0, 0, 0)).take i).filter (fnd Q x0 y0 x1 y1)).length)), (12, .int (nI i))] [] M cl sl := by
    intro m sz b pb r cl sl h01 hcl hsh hcl60 hsl q
    induction q with
    | zero =>
      intro i hi M sb hS
      have ht : (FLn Q (-1) 21 c (0, 0, 0)).take i = FLn Q (-1) 21 c (0, 0, 0) := List.take_of_length_le (by omega)
      rw [ht]
      have h_fl : ((lq Q m sz b pb 1 r).set_sb sb).fl 1 = r := rfl
      refine ri_iload h d_ST_find_77 rfl ?_
      refine ri_aload_n h d_ST_find_79 rfl ?_
      refine ri_get h d_ST_find_80 fl_ST_29 (by first | assumption | exact hS.st | exact gup_s) (by rfl) ?_
      refine ri_get h d_ST_find_83 fl_ST_182 (hS.fl_of (by decide) h_fl) (v := .int (nI (FLn Q (-1) 21 c (0, 0, 0)).length)) (congrArg (fun x => some (Value.int (nI x))) hcl.1) ?_
      first | refine ri_icmpN_ge h 165 d_ST_find_86 (by decide) (by omega) (by omega) (fun c_86 => ?_) (fun c_86 => ?_) | refine ri_icmp_ge h 165 d_ST_find_86 (by decide) (fun c_86 => ?_) (fun c_86 => ?_)
      · refine ri_iload h d_ST_find_165 rfl ?_
        refine ri_ireturn h d_ST_find_167 (by show cl ≤ 60; omega) (by show sl ≤ 8000; omega) ?_
        exact ⟨rfl, m, sz, b, pb, r, sb, hS, h01, hsh⟩
      · omega
    | succ q ih =>
      intro i hi M sb hS
      have hil : i < (FLn Q (-1) 21 c (0, 0, 0)).length := by omega
      have hmem : (FLn Q (-1) 21 c (0, 0, 0))[i] ∈ FLn Q (-1) 21 c (0, 0, 0) := List.getElem_mem hil
      have ht := take_snoc (FLn Q (-1) 21 c (0, 0, 0)) i hil
      obtain ⟨g1, g2, g3, g4, g5⟩ := hcl.2 i hil
      have hs := (FLn_ok hL hC 21 c (0, 0, 0) hc (by decide) _ hmem).1
      have ht8 := (FLn_ok hL hC 21 c (0, 0, 0) hc (by decide) _ hmem).2
      generalize hw : (FLn Q (-1) 21 c (0, 0, 0))[i] = w at *
      have hi3 : i < 3000 := by omega
      have h_fl : ((lq Q m sz b pb 1 r).set_sb sb).fl 1 = r := rfl
      have hj1 : (1 : Nat) < 3 := by decide
      refine ri_iload h d_ST_find_77 rfl ?_
      refine ri_aload_n h d_ST_find_79 rfl ?_
      refine ri_get h d_ST_find_80 fl_ST_29 (by first | assumption | exact hS.st | exact gup_s) (by rfl) ?_
      refine ri_get h d_ST_find_83 fl_ST_182 (hS.fl_of (by decide) h_fl) (v := .int (nI (FLn Q (-1) 21 c (0, 0, 0)).length)) (congrArg (fun x => some (Value.int (nI x))) hcl.1) ?_
      first | refine ri_icmpN_ge h 165 d_ST_find_86 (by decide) (by omega) (by omega) (fun c_86 => ?_) (fun c_86 => ?_) | refine ri_icmp_ge h 165 d_ST_find_86 (by decide) (fun c_86 => ?_) (fun c_86 => ?_)
      · omega
      · refine ri_aload_n h d_ST_find_89 rfl ?_
        refine ri_get h d_ST_find_90 fl_ST_38 (by first | assumption | exact hS.st | exact gup_s) (by rfl) ?_
        refine ri_aload_n h d_ST_find_93 rfl ?_
        refine ri_get h d_ST_find_94 fl_ST_29 (by first | assumption | exact hS.st | exact gup_s) (by rfl) ?_
        refine ri_get h d_ST_find_97 fl_ST_214 (hS.fl_of hj1 h_fl) rfl ?_
        refine ri_iload h d_ST_find_100 rfl ?_
        refine ri_aald h 4 _ d_ST_find_102 (Or.inr rfl) (hS.fls_of hj1 h_fl) rfl hi3 (by decide) (congrArg (Option.map (ad 18)) g1) ?_
        refine ri_get h d_ST_find_103 fl_ST_217 (hS.sh hs) rfl ?_
        refine ri_aload_n h d_ST_find_106 rfl ?_
        refine ri_get h d_ST_find_107 fl_ST_29 (by first | assumption | exact hS.st | exact gup_s) (by rfl) ?_
        refine ri_get h d_ST_find_110 fl_ST_218 (hS.fl_of hj1 h_fl) rfl ?_
        refine ri_iload h d_ST_find_113 rfl ?_
        refine ri_ialdE h _ d_ST_find_115 (hS.flt_of hj1 h_fl) rfl hi3 (by decide) (v := nI w.2.1) (congrArg nI g3) ?_
        refine ri_aload_n h d_ST_find_116 rfl ?_
        refine ri_get h d_ST_find_117 fl_ST_29 (by first | assumption | exact hS.st | exact gup_s) (by rfl) ?_
        refine ri_get h d_ST_find_120 fl_ST_221 (hS.fl_of hj1 h_fl) rfl ?_
        refine ri_iload h d_ST_find_123 rfl ?_
        refine ri_laldE h _ d_ST_find_125 (hS.flx_of hj1 h_fl) rfl hi3 (by decide) g4 ?_
        refine ri_aload_n h d_ST_find_126 rfl ?_
        refine ri_get h d_ST_find_127 fl_ST_29 (by first | assumption | exact hS.st | exact gup_s) (by rfl) ?_
        refine ri_get h d_ST_find_130 fl_ST_225 (hS.fl_of hj1 h_fl) rfl ?_
        refine ri_iload h d_ST_find_133 rfl ?_
        refine ri_laldE h _ d_ST_find_135 (hS.fly_of hj1 h_fl) rfl hi3 (by decide) g5 ?_
        refine ri_cV0_4 (r := (gR0, gT0, 5)) h d_ST_find_136 cv_ST_228 ⟨_, hS.sb⟩ rfl (k_Bx_become h0 hS.sb (hS.shb hs) w.2.1 ht8 _ _) (by decide) (by decide) (by decide) (by show cl + 0 ≤ 60; omega) (by show sl + 0 ≤ 8000; omega) ?_
        refine ri_gH (hS.p_sb (itb Q w)) (fun M hS => ?_)
        refine ri_aload_n h d_ST_find_139 rfl ?_
        refine ri_get h d_ST_find_140 fl_ST_38 (by first | assumption | exact hS.st | exact gup_s) (by rfl) ?_
        refine ri_lload_n h d_ST_find_143 rfl ?_
        refine ri_lload h d_ST_find_144 rfl ?_
        refine ri_lload h d_ST_find_146 rfl ?_
        refine ri_lload h d_ST_find_148 rfl ?_
        refine ri_cVv_4 (r := (gR0, gT0, 5)) h d_ST_find_150 cv_ST_232 ⟨_, hS.sb⟩ rfl (k_Bx_touches h0 hS.sb _ _ _ _) (by decide) (by decide) (by decide) (by show cl + 0 + 0 ≤ 60; omega) (by show sl + 0 + 0 ≤ 8000; omega) ?_
        refine ri_if_eq h 159 d_ST_find_153 (by decide) (fun c_153 => ?_) (fun c_153 => ?_)
        · have hnf : ¬ fnd Q x0 y0 x1 y1 w = true := by
            unfold fnd
            rw [decide_eq_true_iff]
            intro e
            rw [show btch _ _ _ _ x0 y0 x1 y1 = 0 from c_153] at e
            exact absurd e (by decide)
          first | refine ri_iincN h d_ST_find_159 rfl (Nat.le_of_ble_eq_true rfl) ?_ | refine ri_iinc h _ d_ST_find_159 rfl rfl (Nat.le_of_ble_eq_true rfl) ?_
          refine ri_goto h 77 d_ST_find_162 (by decide) ?_
          exact ri_ls [(0, .ref (ad 0 0)), (2, .long x0), (4, .long y0), (6, .long x1), (8, .long y1), (11, .int (nI (((FLn Q (-1) 21 c (0, 0, 0)).take (i + 1)).filter (fnd Q x0 y0 x1 y1)).length)), (12, .int (nI (i + 1)))] ⟨rfl, rfl, rfl, rfl, rfl, by rw [ht, List.filter_append, List.filter_cons_of_neg hnf, List.filter_nil, List.append_nil]; rfl, rfl, trivial⟩ (ih (i + 1) (by omega) M _ hS)
        · have hnf : fnd Q x0 y0 x1 y1 w = true := by
            unfold fnd
            rw [decide_eq_true_iff]
            have c : ¬ btch (itb Q w).x0 (itb Q w).y0 (itb Q w).x1 (itb Q w).y1 x0 y0 x1 y1 = 0 := c_153
            unfold btch at c ⊢
            split at c
            · rw [if_pos ‹_›]
            · exact absurd rfl c
          first | refine ri_iincN h d_ST_find_156 rfl (Nat.le_of_ble_eq_true rfl) ?_ | refine ri_iinc h _ d_ST_find_156 rfl rfl (Nat.le_of_ble_eq_true rfl) ?_
          first | refine ri_iincN h d_ST_find_159 rfl (Nat.le_of_ble_eq_true rfl) ?_ | refine ri_iinc h _ d_ST_find_159 rfl rfl (Nat.le_of_ble_eq_true rfl) ?_
          refine ri_goto h 77 d_ST_find_162 (by decide) ?_
          exact ri_ls [(0, .ref (ad 0 0)), (2, .long x0), (4, .long y0), (6, .long x1), (8, .long y1), (11, .int (nI (((FLn Q (-1) 21 c (0, 0, 0)).take (i + 1)).filter (fnd Q x0 y0 x1 y1)).length)), (12, .int (nI (i + 1)))] ⟨rfl, rfl, rfl, rfl, rfl, by rw [ht, List.filter_append, List.filter_cons_of_pos hnf, List.length_append]; rfl, rfl, trivial⟩ (ih (i + 1) (by omega) M _ hS)
  refine ri_aload_n h d_ST_find_0 rfl ?_
  refine ri_iload_n h d_ST_find_1 rfl ?_
  refine ri_cVv_1 (r := (gR5, gT5, 8)) h d_ST_find_2 cv_ST_74 (by first | exact hS.lcO | exact hS.lsO | exact hS.lpO | exact hS.cesO (by first | assumption | omega) | exact hS.cepO (by first | assumption | omega) | exact ⟨_, (by first | assumption | exact hS.st | exact hS.mo | exact hS.out | exact hS.sb | exact hS.ce (by first | assumption | omega) | exact hS.ceb (by first | assumption | omega) | exact hS.sh (by first | assumption | omega) | exact hS.shb (by first | assumption | omega) | exact hS.pl (by first | assumption | omega) | exact hS.plb (by first | assumption | omega) | exact hS.fl (by first | assumption | omega) | exact gup_s | (refine gup_t (by assumption) ?_; first | assumption | exact gup_s | (refine gup_t (by assumption) ?_; first | assumption | exact gup_s | (refine gup_t (by assumption) ?_; first | assumption | exact gup_s))))⟩) rfl (k_known_ok h0 hS hW hc) (Nat.le_of_ble_eq_true rfl) (Nat.le_of_ble_eq_true rfl) (Nat.le_of_ble_eq_true rfl) (Nat.le_of_ble_eq_true rfl) (Nat.le_of_ble_eq_true rfl) ?_
  refine ri_astore h d_ST_find_5 (Nat.le_of_ble_eq_true rfl) ?_
  refine ri_lload_n h d_ST_find_7 rfl ?_
  refine ri_cS0_1 h d_ST_find_8 cs_ST_115 (k_near_ok h0 (by assumption)) (Nat.le_of_ble_eq_true rfl) (Nat.le_of_ble_eq_true rfl) (Nat.le_of_ble_eq_true rfl) (Nat.le_of_ble_eq_true rfl) (Nat.le_of_ble_eq_true rfl) ?_
  refine ri_lload h d_ST_find_11 rfl ?_
  refine ri_cS0_1 h d_ST_find_13 cs_ST_115 (k_near_ok h0 (by assumption)) (Nat.le_of_ble_eq_true rfl) (Nat.le_of_ble_eq_true rfl) (Nat.le_of_ble_eq_true rfl) (Nat.le_of_ble_eq_true rfl) (Nat.le_of_ble_eq_true rfl) ?_
  refine ri_lload h d_ST_find_16 rfl ?_
  refine ri_cS0_1 h d_ST_find_18 cs_ST_115 (k_near_ok h0 (by assumption)) (Nat.le_of_ble_eq_true rfl) (Nat.le_of_ble_eq_true rfl) (Nat.le_of_ble_eq_true rfl) (Nat.le_of_ble_eq_true rfl) (Nat.le_of_ble_eq_true rfl) ?_
  refine ri_lload h d_ST_find_21 rfl ?_
  refine ri_cS0_1 h d_ST_find_23 cs_ST_115 (k_near_ok h0 (by assumption)) (Nat.le_of_ble_eq_true rfl) (Nat.le_of_ble_eq_true rfl) (Nat.le_of_ble_eq_true rfl) (Nat.le_of_ble_eq_true rfl) (Nat.le_of_ble_eq_true rfl) ?_
  refine ri_lload_n h d_ST_find_26 rfl ?_
  refine ri_lload h d_ST_find_27 rfl ?_
  refine ri_lcmp_gt h 41 d_ST_find_29 d_ST_find_30 (by decide) (fun c_29 => ?_) (fun c_29 => ?_)
  · contradiction
  · refine ri_lload h d_ST_find_33 rfl ?_
    refine ri_lload h d_ST_find_35 rfl ?_
    refine ri_lcmp_le h 51 d_ST_find_37 d_ST_find_38 (by decide) (fun c_37 => ?_) (fun c_37 => ?_)
    · refine ri_aload_n h d_ST_find_51 rfl ?_
      refine ri_iconst h (-1) d_ST_find_52 rfl ?_
      refine ri_dV0_1 (r := (gR5, gT5, 8)) h d_ST_find_53 cv_ST_160 (by first | exact hS.lcO | exact hS.lsO | exact hS.lpO | exact hS.cesO (by first | assumption | omega) | exact hS.cepO (by first | assumption | omega) | exact ⟨_, (by first | assumption | exact hS.st | exact hS.mo | exact hS.out | exact hS.sb | exact hS.ce (by first | assumption | omega) | exact hS.ceb (by first | assumption | omega) | exact hS.sh (by first | assumption | omega) | exact hS.shb (by first | assumption | omega) | exact hS.pl (by first | assumption | omega) | exact hS.plb (by first | assumption | omega) | exact hS.fl (by first | assumption | omega) | exact gup_s | (refine gup_t (by assumption) ?_; first | assumption | exact gup_s | (refine gup_t (by assumption) ?_; first | assumption | exact gup_s | (refine gup_t (by assumption) ?_; first | assumption | exact gup_s))))⟩) rfl (k_measureCells h0 hW hL hX hme hS) (Nat.le_of_ble_eq_true rfl) (Nat.le_of_ble_eq_true rfl) (Nat.le_of_ble_eq_true rfl) (Nat.le_of_ble_eq_true rfl) (Nat.le_of_ble_eq_true rfl) (fun M hS => ?_)
      obtain ⟨m, sz, b, pb, hS, h01, hdn⟩ := hS
      have d1 := (hdn c hc).1
      refine ri_aload h d_ST_find_56 rfl ?_
      refine ri_cS0_1 h d_ST_find_58 cs_ST_174 (k_few_ok h0 hS hc (show sz c ≤ 3000 by omega)) (Nat.le_of_ble_eq_true rfl) (Nat.le_of_ble_eq_true rfl) (Nat.le_of_ble_eq_true rfl) (Nat.le_of_ble_eq_true rfl) (Nat.le_of_ble_eq_true rfl) ?_
      refine ri_aload_n h d_ST_find_61 rfl ?_
      refine ri_get h d_ST_find_62 fl_ST_29 (by first | assumption | exact hS.st | exact gup_s) (by rfl) ?_
      refine ri_aload h d_ST_find_65 rfl ?_
      refine ri_iconst h (-1) d_ST_find_67 rfl ?_
      refine ri_dV0_2 (r := (gR2, gT2, 11)) h d_ST_find_68 cv_ST_178 (by first | exact hS.lcO | exact hS.lsO | exact hS.lpO | exact hS.cesO (by first | assumption | omega) | exact hS.cepO (by first | assumption | omega) | exact ⟨_, (by first | assumption | exact hS.st | exact hS.mo | exact hS.out | exact hS.sb | exact hS.ce (by first | assumption | omega) | exact hS.ceb (by first | assumption | omega) | exact hS.sh (by first | assumption | omega) | exact hS.shb (by first | assumption | omega) | exact hS.pl (by first | assumption | omega) | exact hS.plb (by first | assumption | omega) | exact hS.fl (by first | assumption | omega) | exact gup_s | (refine gup_t (by assumption) ?_; first | assumption | exact gup_s | (refine gup_t (by assumption) ?_; first | assumption | exact gup_s | (refine gup_t (by assumption) ?_; first | assumption | exact gup_s))))⟩) rfl (k_lay h0 hW hL hX hC (show 1 < 3 by decide) (fun x hx => (hdn x hx).1) (hT.2.1 1 (by decide)) hc hS hlen) (Nat.le_of_ble_eq_true rfl) (Nat.le_of_ble_eq_true rfl) (Nat.le_of_ble_eq_true rfl) (Nat.le_of_ble_eq_true rfl) (Nat.le_of_ble_eq_true rfl) (fun M hS => ?_)
      obtain ⟨r, hS, hcl, hk⟩ := hS
      refine ri_iconstN h 0 d_ST_find_71 rfl ?_
      refine ri_istore h d_ST_find_72 (Nat.le_of_ble_eq_true rfl) ?_
      refine ri_iconstN h 0 d_ST_find_74 rfl ?_
      refine ri_istore h d_ST_find_75 (Nat.le_of_ble_eq_true rfl) ?_
      exact ri_ls [(0, .ref (ad 0 0)), (2, .long x0), (4, .long y0), (6, .long x1), (8, .long y1), (11, .int (nI (((FLn Q (-1) 21 c (0, 0, 0)).take 0).filter (fnd Q x0 y0 x1 y1)).length)), (12, .int (nI 0))] ⟨rfl, rfl, rfl, rfl, rfl, rfl, rfl, trivial⟩ (LP m sz b pb r _ _ h01 hcl hk.2.2.2.2.2 (by decide) (by decide) (FLn Q (-1) 21 c (0, 0, 0)).length 0 (by omega) M Q.sb hS)
    · contradiction
end FIN
