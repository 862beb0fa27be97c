/-! Lists of the class; checks -/
/-- bounds -/
def WB (Q : CS) : Prop := Q.nC ≤ 20 ∧ Q.nS ≤ 120 ∧ Q.nP ≤ 80 ∧ ∀ c, c < Q.nC → (Q.ce c).ss.length ≤ 120 ∧ (Q.ce c).ps.length ≤ 80 ∧ (∀ s ∈ (Q.ce c).ss, s < Q.nS) ∧ (∀ p ∈ (Q.ce c).ps, p < Q.nP)
section LI
variable {l : Launch} {D : gD} {s0 : State} {M : gH} {z : Nat} {ad : gA} {Q : CS} {N : MS} {c i : Nat}
theorem k_sizeL (h0 : g_0 l D s0) {a d n : Nat} {mc : Int32} (hM : M a = some (als d (nI n) mc)) (m : Nat) (hm : n = m) : Ct l D s0 y_AL_size (Cond.code y_AL_size b_AL_size 1 (some .int)) (rk 0 0 0) [.ref a] M (fR (some (.int (nI m))) M) := by
  subst hm
  exact k_AL_size h0 hM
theorem k_size_lc (h0 : g_0 l D s0) (hS : HS z ad Q N M) : Ct l D s0 y_AL_size (Cond.code y_AL_size b_AL_size 1 (some .int)) (rk 0 0 0) [.ref (ad 1 0)] M (fR (some (.int (nI Q.nC))) M) := by
  obtain ⟨mc, d, h1, -⟩ := hS.lc
  exact k_sizeL h0 h1 _ (by simp)
theorem k_size_ls (h0 : g_0 l D s0) (hS : HS z ad Q N M) : Ct l D s0 y_AL_size (Cond.code y_AL_size b_AL_size 1 (some .int)) (rk 0 0 0) [.ref (ad 1 1)] M (fR (some (.int (nI Q.nS))) M) := by
  obtain ⟨mc, d, h1, -⟩ := hS.ls
  exact k_sizeL h0 h1 _ (by simp)
theorem k_size_lp (h0 : g_0 l D s0) (hS : HS z ad Q N M) : Ct l D s0 y_AL_size (Cond.code y_AL_size b_AL_size 1 (some .int)) (rk 0 0 0) [.ref (ad 1 2)] M (fR (some (.int (nI Q.nP))) M) := by
  obtain ⟨mc, d, h1, -⟩ := hS.lp
  exact k_sizeL h0 h1 _ (by simp)
theorem k_size_ces (h0 : g_0 l D s0) (hS : HS z ad Q N M) (hc : c < Q.nC) : Ct l D s0 y_AL_size (Cond.code y_AL_size b_AL_size 1 (some .int)) (rk 0 0 0) [.ref (ad 13 c)] M (fR (some (.int (nI (Q.ce c).ss.length))) M) := by
  obtain ⟨mc, d, h1, -⟩ := hS.ces hc
  exact k_sizeL h0 h1 _ (by simp)
theorem k_size_cep (h0 : g_0 l D s0) (hS : HS z ad Q N M) (hc : c < Q.nC) : Ct l D s0 y_AL_size (Cond.code y_AL_size b_AL_size 1 (some .int)) (rk 0 0 0) [.ref (ad 15 c)] M (fR (some (.int (nI (Q.ce c).ps.length))) M) := by
  obtain ⟨mc, d, h1, -⟩ := hS.cep hc
  exact k_sizeL h0 h1 _ (by simp)
theorem k_getL (h0 : g_0 l D s0) {a d : Nat} {mc : Int32} {xs : List Nat} (hM : M a = some (als d (nI xs.length) mc)) (hg : xs ≠ [] → ∃ (cap : Nat) (g : Nat → Option Nat), M d = some (ao cap g) ∧ xs.length ≤ cap ∧ cap ≤ 2 * xs.length + 10 ∧ ∀ (j : Nat) (h : j < xs.length), g j = some xs[j]) (hb : xs.length ≤ 1000) (hi : i < xs.length) (q : Nat) (hq : xs[i] = q) : Ct l D s0 y_AL_get (Cond.code y_AL_get b_AL_get 2 (some (.object "java/lang/Object"))) (rk 2 0 0) [.ref a, .int (nI i)] M (fR (some (.ref q)) M) := by
  obtain ⟨cap, g, h1, h2, h3, h4⟩ := hg (by intro e; rw [e] at hi; exact absurd hi (Nat.not_lt_zero _))
  subst hq
  exact k_AL_get h0 hM h1 i hi h2 (by omega) (h4 i hi)
theorem k_get_lc (h0 : g_0 l D s0) (hS : HS z ad Q N M) (hW : WB Q) (hi : i < Q.nC) : Ct l D s0 y_AL_get (Cond.code y_AL_get b_AL_get 2 (some (.object "java/lang/Object"))) (rk 2 0 0) [.ref (ad 1 0), .int (nI i)] M (fR (some (.ref (ad 12 i))) M) := by
  obtain ⟨mc, d, h1, h2⟩ := hS.lc
  exact k_getL h0 h1 h2 (by simp; have := hW.1; omega) (by simpa using hi) _ (by simp)
theorem k_get_ls (h0 : g_0 l D s0) (hS : HS z ad Q N M) (hW : WB Q) (hi : i < Q.nS) : Ct l D s0 y_AL_get (Cond.code y_AL_get b_AL_get 2 (some (.object "java/lang/Object"))) (rk 2 0 0) [.ref (ad 1 1), .int (nI i)] M (fR (some (.ref (ad 18 i))) M) := by
  obtain ⟨mc, d, h1, h2⟩ := hS.ls
  exact k_getL h0 h1 h2 (by simp; have := hW.2.1; omega) (by simpa using hi) _ (by simp)
theorem k_get_lp (h0 : g_0 l D s0) (hS : HS z ad Q N M) (hW : WB Q) (hi : i < Q.nP) : Ct l D s0 y_AL_get (Cond.code y_AL_get b_AL_get 2 (some (.object "java/lang/Object"))) (rk 2 0 0) [.ref (ad 1 2), .int (nI i)] M (fR (some (.ref (ad 24 i))) M) := by
  obtain ⟨mc, d, h1, h2⟩ := hS.lp
  exact k_getL h0 h1 h2 (by simp; have := hW.2.2.1; omega) (by simpa using hi) _ (by simp)
theorem k_get_ces (h0 : g_0 l D s0) (hS : HS z ad Q N M) (hW : WB Q) (hc : c < Q.nC) (hi : i < (Q.ce c).ss.length) : Ct l D s0 y_AL_get (Cond.code y_AL_get b_AL_get 2 (some (.object "java/lang/Object"))) (rk 2 0 0) [.ref (ad 13 c), .int (nI i)] M (fR (some (.ref (ad 18 (Q.ce c).ss[i]))) M) := by
  obtain ⟨mc, d, h1, h2⟩ := hS.ces hc
  exact k_getL h0 h1 h2 (by simp; have := (hW.2.2.2 c hc).1; omega) (by simpa using hi) _ (by simp)
theorem k_get_cep (h0 : g_0 l D s0) (hS : HS z ad Q N M) (hW : WB Q) (hc : c < Q.nC) (hi : i < (Q.ce c).ps.length) : Ct l D s0 y_AL_get (Cond.code y_AL_get b_AL_get 2 (some (.object "java/lang/Object"))) (rk 2 0 0) [.ref (ad 15 c), .int (nI i)] M (fR (some (.ref (ad 24 (Q.ce c).ps[i]))) M) := by
  obtain ⟨mc, d, h1, h2⟩ := hS.cep hc
  exact k_getL h0 h1 h2 (by simp; have := (hW.2.2.2 c hc).2.1; omega) (by simpa using hi) _ (by simp)
abbrev eIO : String := "java/lang/IndexOutOfBoundsException"
abbrev eIS : String := "java/lang/IllegalStateException"
abbrev eIA : String := "java/lang/IllegalArgumentException"
abbrev eUO : String := "java/lang/UnsupportedOperationException"
/-- an index below n, or not -/
theorem ix_of {v : Int32} {n : Nat} (hn : n < 2 ^ 31) (h1 : ¬ v < 0) (h2 : v < nI n) : ∃ c, c < n ∧ v = nI c := by
  obtain ⟨j, hj, rfl⟩ := nI_of h1
  exact ⟨j, (nI_ltI hj hn).mp h2, rfl⟩
theorem ix_0 {v : Int32} {n : Nat} (hn : n < 2 ^ 31) (h : ∃ c, c < n ∧ v = nI c) : ¬ v < 0 ∧ v < nI n := by
  obtain ⟨c, hc, rfl⟩ := h
  exact ⟨nI_pos (by omega), nI_lt hc hn⟩
theorem k_known_ok (h0 : g_0 l D s0) (hS : HS z ad Q N M) (hW : WB Q) (hc : c < Q.nC) : Ct l D s0 y_ST_knownCell (Cond.code y_ST_knownCell b_ST_knownCell 2 (some (.object "ShapeTrees$Cell"))) (rk 3 1 6) [.ref (ad 0 0), .int (nI c)] M (fR (some (.ref (ad 12 c))) M) := by
  have hb := hW.1
  refine Ct.of h0 (by decide +kernel) rfl fun X hX h => ?_
  obtain ⟨p_, l', e_, R_, s_, m_, ar_, be_, me_, c_⟩ := X
  obtain rfl : l' = l := hX
  refine ri_iload_n h d_ST_knownCell_0 rfl ?_
  first | refine ri_ifN_lt h 15 d_ST_knownCell_1 (by decide) (by omega) ?_ | refine ri_if_lt h 15 d_ST_knownCell_1 (by decide) (fun c_1 => ?_) (fun c_1 => ?_)
  refine ri_iload_n h d_ST_knownCell_4 rfl ?_
  refine ri_aload_n h d_ST_knownCell_5 rfl ?_
  refine ri_get h d_ST_knownCell_6 fl_ST_10 (by first | assumption | exact hS.st | exact hS.mo | exact hS.out | exact hS.sb | exact hS.ce (by first | assumption | omega) | exact hS.ceb (by first | assumption | omega) | exact hS.sh (by first | assumption | omega) | exact hS.shb (by first | assumption | omega) | exact hS.pl (by first | assumption | omega) | exact hS.plb (by first | assumption | omega) | exact hS.fl (by first | assumption | omega) | exact gup_s | (refine gup_t (by assumption) ?_; first | assumption | exact gup_s | (refine gup_t (by assumption) ?_; first | assumption | exact gup_s | (refine gup_t (by assumption) ?_; first | assumption | exact gup_s)))) (by rfl) ?_
  refine ri_cVv_0 (r := (gR7, gT7, 3)) h d_ST_knownCell_9 cv_ST_56 (by first | exact hS.lcO | exact hS.lsO | exact hS.lpO | exact hS.cesO (by first | assumption | omega) | exact hS.cepO (by first | assumption | omega) | exact ⟨_, (by first | assumption | exact hS.st | exact hS.mo | exact hS.out | exact hS.sb | exact hS.ce (by first | assumption | omega) | exact hS.ceb (by first | assumption | omega) | exact hS.sh (by first | assumption | omega) | exact hS.shb (by first | assumption | omega) | exact hS.pl (by first | assumption | omega) | exact hS.plb (by first | assumption | omega) | exact hS.fl (by first | assumption | omega) | exact gup_s | (refine gup_t (by assumption) ?_; first | assumption | exact gup_s | (refine gup_t (by assumption) ?_; first | assumption | exact gup_s | (refine gup_t (by assumption) ?_; first | assumption | exact gup_s))))⟩) rfl (by first | exact k_size_lc h0 hS | exact k_size_ls h0 hS | exact k_size_lp h0 hS | exact k_size_ces h0 hS (by first | assumption | omega) | exact k_size_cep h0 hS (by first | assumption | omega)) (by exact Nat.le_of_ble_eq_true rfl) (by exact Nat.le_of_ble_eq_true rfl) (by exact Nat.le_of_ble_eq_true rfl) (by exact Nat.le_of_ble_eq_true rfl) (by exact Nat.le_of_ble_eq_true rfl) ?_
  first | refine ri_icmpN_lt h 25 d_ST_knownCell_12 (by decide) (by omega) (by omega) (fun c_12 => ?_) (fun c_12 => ?_) | refine ri_icmp_lt h 25 d_ST_knownCell_12 (by decide) (fun c_12 => ?_) (fun c_12 => ?_)
  · refine ri_aload_n h d_ST_knownCell_25 rfl ?_
    refine ri_get h d_ST_knownCell_26 fl_ST_10 (by first | assumption | exact hS.st | exact hS.mo | exact hS.out | exact hS.sb | exact hS.ce (by first | assumption | omega) | exact hS.ceb (by first | assumption | omega) | exact hS.sh (by first | assumption | omega) | exact hS.shb (by first | assumption | omega) | exact hS.pl (by first | assumption | omega) | exact hS.plb (by first | assumption | omega) | exact hS.fl (by first | assumption | omega) | exact gup_s | (refine gup_t (by assumption) ?_; first | assumption | exact gup_s | (refine gup_t (by assumption) ?_; first | assumption | exact gup_s | (refine gup_t (by assumption) ?_; first | assumption | exact gup_s)))) (by rfl) ?_
    refine ri_iload_n h d_ST_knownCell_29 rfl ?_
    refine ri_cVv_1 (r := (gR7, gT7, 3)) h d_ST_knownCell_30 cv_ST_138 (by first | exact hS.lcO | exact hS.lsO | exact hS.lpO | exact hS.cesO (by first | assumption | omega) | exact hS.cepO (by first | assumption | omega) | exact ⟨_, (by first | assumption | exact hS.st | exact hS.mo | exact hS.out | exact hS.sb | exact hS.ce (by first | assumption | omega) | exact hS.ceb (by first | assumption | omega) | exact hS.sh (by first | assumption | omega) | exact hS.shb (by first | assumption | omega) | exact hS.pl (by first | assumption | omega) | exact hS.plb (by first | assumption | omega) | exact hS.fl (by first | assumption | omega) | exact gup_s | (refine gup_t (by assumption) ?_; first | assumption | exact gup_s | (refine gup_t (by assumption) ?_; first | assumption | exact gup_s | (refine gup_t (by assumption) ?_; first | assumption | exact gup_s))))⟩) rfl (by first | exact k_get_lc h0 hS hW (by first | assumption | omega) | exact k_get_ls h0 hS hW (by first | assumption | omega) | exact k_get_lp h0 hS hW (by first | assumption | omega) | exact k_get_ces h0 hS hW (by first | assumption | omega) (by first | assumption | omega) | exact k_get_cep h0 hS hW (by first | assumption | omega) (by first | assumption | omega)) (by exact Nat.le_of_ble_eq_true rfl) (by exact Nat.le_of_ble_eq_true rfl) (by exact Nat.le_of_ble_eq_true rfl) (by exact Nat.le_of_ble_eq_true rfl) (by exact Nat.le_of_ble_eq_true rfl) ?_
    refine ri_cast (r := (gR1, gT1, 6)) h d_ST_knownCell_33 (by first | assumption | exact hS.st | exact hS.mo | exact hS.out | exact hS.sb | exact hS.ce (by first | assumption | omega) | exact hS.ceb (by first | assumption | omega) | exact hS.sh (by first | assumption | omega) | exact hS.shb (by first | assumption | omega) | exact hS.pl (by first | assumption | omega) | exact hS.plb (by first | assumption | omega) | exact hS.fl (by first | assumption | omega) | exact gup_s | (refine gup_t (by assumption) ?_; first | assumption | exact gup_s | (refine gup_t (by assumption) ?_; first | assumption | exact gup_s | (refine gup_t (by assumption) ?_; first | assumption | exact gup_s)))) rfl (by decide +kernel) (by decide +kernel) ?_
    refine ri_areturn h (by first | exact Or.inl ⟨_, rfl⟩ | exact Or.inr ⟨_, rfl⟩) d_ST_knownCell_36 (Nat.le_of_ble_eq_true rfl) (Nat.le_of_ble_eq_true rfl) ?_
    exact ⟨rfl, rfl⟩
  · omega
theorem k_known_no (h0 : g_0 l D s0) (hS : HS z ad Q N M) (hW : WB Q) {v : Int32} (hv : ¬ ∃ c, c < Q.nC ∧ v = nI c) : Ct l D s0 y_ST_knownCell (Cond.code y_ST_knownCell b_ST_knownCell 2 (some (.object "ShapeTrees$Cell"))) (rk 3 1 6) [.ref (ad 0 0), .int v] M (fE eIO M) := by
  have hb := hW.1
  refine Ct.of h0 (by decide +kernel) rfl fun X hX h => ?_
  obtain ⟨p_, l', e_, R_, s_, m_, ar_, be_, me_, c_⟩ := X
  obtain rfl : l' = l := hX
  refine ri_iload_n h d_ST_knownCell_0 rfl ?_
  refine ri_if_lt h 15 d_ST_knownCell_1 (by decide) (fun c_1 => ?_) (fun c_1 => ?_)
  · refine ri_throw h tw_244 d_ST_knownCell_15 d_ST_knownCell_18 d_ST_knownCell_19 d_ST_knownCell_21 d_ST_knownCell_24 (Nat.le_of_ble_eq_true rfl) (Nat.le_of_ble_eq_true rfl) (Nat.le_of_ble_eq_true rfl) (Nat.le_of_ble_eq_true rfl) ?_
    exact ⟨rfl, rfl⟩
  · refine ri_iload_n h d_ST_knownCell_4 rfl ?_
    refine ri_aload_n h d_ST_knownCell_5 rfl ?_
    refine ri_get h d_ST_knownCell_6 fl_ST_10 (by first | assumption | exact hS.st | exact hS.mo | exact hS.out | exact hS.sb | exact hS.ce (by first | assumption | omega) | exact hS.ceb (by first | assumption | omega) | exact hS.sh (by first | assumption | omega) | exact hS.shb (by first | assumption | omega) | exact hS.pl (by first | assumption | omega) | exact hS.plb (by first | assumption | omega) | exact hS.fl (by first | assumption | omega) | exact gup_s | (refine gup_t (by assumption) ?_; first | assumption | exact gup_s | (refine gup_t (by assumption) ?_; first | assumption | exact gup_s | (refine gup_t (by assumption) ?_; first | assumption | exact gup_s)))) (by rfl) ?_
    refine ri_cVv_0 (r := (gR7, gT7, 3)) h d_ST_knownCell_9 cv_ST_56 (by first | exact hS.lcO | exact hS.lsO | exact hS.lpO | exact hS.cesO (by first | assumption | omega) | exact hS.cepO (by first | assumption | omega) | exact ⟨_, (by first | assumption | exact hS.st | exact hS.mo | exact hS.out | exact hS.sb | exact hS.ce (by first | assumption | omega) | exact hS.ceb (by first | assumption | omega) | exact hS.sh (by first | assumption | omega) | exact hS.shb (by first | assumption | omega) | exact hS.pl (by first | assumption | omega) | exact hS.plb (by first | assumption | omega) | exact hS.fl (by first | assumption | omega) | exact gup_s | (refine gup_t (by assumption) ?_; first | assumption | exact gup_s | (refine gup_t (by assumption) ?_; first | assumption | exact gup_s | (refine gup_t (by assumption) ?_; first | assumption | exact gup_s))))⟩) rfl (by first | exact k_size_lc h0 hS | exact k_size_ls h0 hS | exact k_size_lp h0 hS | exact k_size_ces h0 hS (by first | assumption | omega) | exact k_size_cep h0 hS (by first | assumption | omega)) (by exact Nat.le_of_ble_eq_true rfl) (by exact Nat.le_of_ble_eq_true rfl) (by exact Nat.le_of_ble_eq_true rfl) (by exact Nat.le_of_ble_eq_true rfl) (by exact Nat.le_of_ble_eq_true rfl) ?_
    refine ri_icmp_lt h 25 d_ST_knownCell_12 (by decide) (fun c_12 => ?_) (fun c_12 => ?_)
    · exact absurd (ix_of (by omega) c_1 c_12) hv
    · refine ri_throw h tw_244 d_ST_knownCell_15 d_ST_knownCell_18 d_ST_knownCell_19 d_ST_knownCell_21 d_ST_knownCell_24 (Nat.le_of_ble_eq_true rfl) (Nat.le_of_ble_eq_true rfl) (Nat.le_of_ble_eq_true rfl) (Nat.le_of_ble_eq_true rfl) ?_
      exact ⟨rfl, rfl⟩
theorem k_knownS_ok (h0 : g_0 l D s0) (hS : HS z ad Q N M) (hW : WB Q) (hc : c < Q.nS) : Ct l D s0 y_ST_knownShape (Cond.code y_ST_knownShape b_ST_knownShape 2 (some (.object "ShapeTrees$Shape"))) (rk 3 1 6) [.ref (ad 0 0), .int (nI c)] M (fR (some (.ref (ad 18 c))) M) := by
  have hb := hW.2.1
  refine Ct.of h0 (by decide +kernel) rfl fun X hX h => ?_
  obtain ⟨p_, l', e_, R_, s_, m_, ar_, be_, me_, c_⟩ := X
  obtain rfl : l' = l := hX
  refine ri_iload_n h d_ST_knownShape_0 rfl ?_
  first | refine ri_ifN_lt h 15 d_ST_knownShape_1 (by decide) (by omega) ?_ | refine ri_if_lt h 15 d_ST_knownShape_1 (by decide) (fun c_1 => ?_) (fun c_1 => ?_)
  refine ri_iload_n h d_ST_knownShape_4 rfl ?_
  refine ri_aload_n h d_ST_knownShape_5 rfl ?_
  refine ri_get h d_ST_knownShape_6 fl_ST_16 (by first | assumption | exact hS.st | exact hS.mo | exact hS.out | exact hS.sb | exact hS.ce (by first | assumption | omega) | exact hS.ceb (by first | assumption | omega) | exact hS.sh (by first | assumption | omega) | exact hS.shb (by first | assumption | omega) | exact hS.pl (by first | assumption | omega) | exact hS.plb (by first | assumption | omega) | exact hS.fl (by first | assumption | omega) | exact gup_s | (refine gup_t (by assumption) ?_; first | assumption | exact gup_s | (refine gup_t (by assumption) ?_; first | assumption | exact gup_s | (refine gup_t (by assumption) ?_; first | assumption | exact gup_s)))) (by rfl) ?_
  refine ri_cVv_0 (r := (gR7, gT7, 3)) h d_ST_knownShape_9 cv_ST_56 (by first | exact hS.lcO | exact hS.lsO | exact hS.lpO | exact hS.cesO (by first | assumption | omega) | exact hS.cepO (by first | assumption | omega) | exact ⟨_, (by first | assumption | exact hS.st | exact hS.mo | exact hS.out | exact hS.sb | exact hS.ce (by first | assumption | omega) | exact hS.ceb (by first | assumption | omega) | exact hS.sh (by first | assumption | omega) | exact hS.shb (by first | assumption | omega) | exact hS.pl (by first | assumption | omega) | exact hS.plb (by first | assumption | omega) | exact hS.fl (by first | assumption | omega) | exact gup_s | (refine gup_t (by assumption) ?_; first | assumption | exact gup_s | (refine gup_t (by assumption) ?_; first | assumption | exact gup_s | (refine gup_t (by assumption) ?_; first | assumption | exact gup_s))))⟩) rfl (by first | exact k_size_lc h0 hS | exact k_size_ls h0 hS | exact k_size_lp h0 hS | exact k_size_ces h0 hS (by first | assumption | omega) | exact k_size_cep h0 hS (by first | assumption | omega)) (by exact Nat.le_of_ble_eq_true rfl) (by exact Nat.le_of_ble_eq_true rfl) (by exact Nat.le_of_ble_eq_true rfl) (by exact Nat.le_of_ble_eq_true rfl) (by exact Nat.le_of_ble_eq_true rfl) ?_
  first | refine ri_icmpN_lt h 25 d_ST_knownShape_12 (by decide) (by omega) (by omega) (fun c_12 => ?_) (fun c_12 => ?_) | refine ri_icmp_lt h 25 d_ST_knownShape_12 (by decide) (fun c_12 => ?_) (fun c_12 => ?_)
  · refine ri_aload_n h d_ST_knownShape_25 rfl ?_
    refine ri_get h d_ST_knownShape_26 fl_ST_16 (by first | assumption | exact hS.st | exact hS.mo | exact hS.out | exact hS.sb | exact hS.ce (by first | assumption | omega) | exact hS.ceb (by first | assumption | omega) | exact hS.sh (by first | assumption | omega) | exact hS.shb (by first | assumption | omega) | exact hS.pl (by first | assumption | omega) | exact hS.plb (by first | assumption | omega) | exact hS.fl (by first | assumption | omega) | exact gup_s | (refine gup_t (by assumption) ?_; first | assumption | exact gup_s | (refine gup_t (by assumption) ?_; first | assumption | exact gup_s | (refine gup_t (by assumption) ?_; first | assumption | exact gup_s)))) (by rfl) ?_
    refine ri_iload_n h d_ST_knownShape_29 rfl ?_
    refine ri_cVv_1 (r := (gR7, gT7, 3)) h d_ST_knownShape_30 cv_ST_138 (by first | exact hS.lcO | exact hS.lsO | exact hS.lpO | exact hS.cesO (by first | assumption | omega) | exact hS.cepO (by first | assumption | omega) | exact ⟨_, (by first | assumption | exact hS.st | exact hS.mo | exact hS.out | exact hS.sb | exact hS.ce (by first | assumption | omega) | exact hS.ceb (by first | assumption | omega) | exact hS.sh (by first | assumption | omega) | exact hS.shb (by first | assumption | omega) | exact hS.pl (by first | assumption | omega) | exact hS.plb (by first | assumption | omega) | exact hS.fl (by first | assumption | omega) | exact gup_s | (refine gup_t (by assumption) ?_; first | assumption | exact gup_s | (refine gup_t (by assumption) ?_; first | assumption | exact gup_s | (refine gup_t (by assumption) ?_; first | assumption | exact gup_s))))⟩) rfl (by first | exact k_get_lc h0 hS hW (by first | assumption | omega) | exact k_get_ls h0 hS hW (by first | assumption | omega) | exact k_get_lp h0 hS hW (by first | assumption | omega) | exact k_get_ces h0 hS hW (by first | assumption | omega) (by first | assumption | omega) | exact k_get_cep h0 hS hW (by first | assumption | omega) (by first | assumption | omega)) (by exact Nat.le_of_ble_eq_true rfl) (by exact Nat.le_of_ble_eq_true rfl) (by exact Nat.le_of_ble_eq_true rfl) (by exact Nat.le_of_ble_eq_true rfl) (by exact Nat.le_of_ble_eq_true rfl) ?_
    refine ri_cast (r := (gR4, gT4, 10)) h d_ST_knownShape_33 (by first | assumption | exact hS.st | exact hS.mo | exact hS.out | exact hS.sb | exact hS.ce (by first | assumption | omega) | exact hS.ceb (by first | assumption | omega) | exact hS.sh (by first | assumption | omega) | exact hS.shb (by first | assumption | omega) | exact hS.pl (by first | assumption | omega) | exact hS.plb (by first | assumption | omega) | exact hS.fl (by first | assumption | omega) | exact gup_s | (refine gup_t (by assumption) ?_; first | assumption | exact gup_s | (refine gup_t (by assumption) ?_; first | assumption | exact gup_s | (refine gup_t (by assumption) ?_; first | assumption | exact gup_s)))) rfl (by decide +kernel) (by decide +kernel) ?_
    refine ri_areturn h (by first | exact Or.inl ⟨_, rfl⟩ | exact Or.inr ⟨_, rfl⟩) d_ST_knownShape_36 (Nat.le_of_ble_eq_true rfl) (Nat.le_of_ble_eq_true rfl) ?_
    exact ⟨rfl, rfl⟩
  · omega
theorem k_knownS_no (h0 : g_0 l D s0) (hS : HS z ad Q N M) (hW : WB Q) {v : Int32} (hv : ¬ ∃ c, c < Q.nS ∧ v = nI c) : Ct l D s0 y_ST_knownShape (Cond.code y_ST_knownShape b_ST_knownShape 2 (some (.object "ShapeTrees$Shape"))) (rk 3 1 6) [.ref (ad 0 0), .int v] M (fE eIO M) := by
  have hb := hW.2.1
  refine Ct.of h0 (by decide +kernel) rfl fun X hX h => ?_
  obtain ⟨p_, l', e_, R_, s_, m_, ar_, be_, me_, c_⟩ := X
  obtain rfl : l' = l := hX
  refine ri_iload_n h d_ST_knownShape_0 rfl ?_
  refine ri_if_lt h 15 d_ST_knownShape_1 (by decide) (fun c_1 => ?_) (fun c_1 => ?_)
  · refine ri_throw h tw_246 d_ST_knownShape_15 d_ST_knownShape_18 d_ST_knownShape_19 d_ST_knownShape_21 d_ST_knownShape_24 (Nat.le_of_ble_eq_true rfl) (Nat.le_of_ble_eq_true rfl) (Nat.le_of_ble_eq_true rfl) (Nat.le_of_ble_eq_true rfl) ?_
    exact ⟨rfl, rfl⟩
  · refine ri_iload_n h d_ST_knownShape_4 rfl ?_
    refine ri_aload_n h d_ST_knownShape_5 rfl ?_
    refine ri_get h d_ST_knownShape_6 fl_ST_16 (by first | assumption | exact hS.st | exact hS.mo | exact hS.out | exact hS.sb | exact hS.ce (by first | assumption | omega) | exact hS.ceb (by first | assumption | omega) | exact hS.sh (by first | assumption | omega) | exact hS.shb (by first | assumption | omega) | exact hS.pl (by first | assumption | omega) | exact hS.plb (by first | assumption | omega) | exact hS.fl (by first | assumption | omega) | exact gup_s | (refine gup_t (by assumption) ?_; first | assumption | exact gup_s | (refine gup_t (by assumption) ?_; first | assumption | exact gup_s | (refine gup_t (by assumption) ?_; first | assumption | exact gup_s)))) (by rfl) ?_
    refine ri_cVv_0 (r := (gR7, gT7, 3)) h d_ST_knownShape_9 cv_ST_56 (by first | exact hS.lcO | exact hS.lsO | exact hS.lpO | exact hS.cesO (by first | assumption | omega) | exact hS.cepO (by first | assumption | omega) | exact ⟨_, (by first | assumption | exact hS.st | exact hS.mo | exact hS.out | exact hS.sb | exact hS.ce (by first | assumption | omega) | exact hS.ceb (by first | assumption | omega) | exact hS.sh (by first | assumption | omega) | exact hS.shb (by first | assumption | omega) | exact hS.pl (by first | assumption | omega) | exact hS.plb (by first | assumption | omega) | exact hS.fl (by first | assumption | omega) | exact gup_s | (refine gup_t (by assumption) ?_; first | assumption | exact gup_s | (refine gup_t (by assumption) ?_; first | assumption | exact gup_s | (refine gup_t (by assumption) ?_; first | assumption | exact gup_s))))⟩) rfl (by first | exact k_size_lc h0 hS | exact k_size_ls h0 hS | exact k_size_lp h0 hS | exact k_size_ces h0 hS (by first | assumption | omega) | exact k_size_cep h0 hS (by first | assumption | omega)) (by exact Nat.le_of_ble_eq_true rfl) (by exact Nat.le_of_ble_eq_true rfl) (by exact Nat.le_of_ble_eq_true rfl) (by exact Nat.le_of_ble_eq_true rfl) (by exact Nat.le_of_ble_eq_true rfl) ?_
    refine ri_icmp_lt h 25 d_ST_knownShape_12 (by decide) (fun c_12 => ?_) (fun c_12 => ?_)
    · exact absurd (ix_of (by omega) c_1 c_12) hv
    · refine ri_throw h tw_246 d_ST_knownShape_15 d_ST_knownShape_18 d_ST_knownShape_19 d_ST_knownShape_21 d_ST_knownShape_24 (Nat.le_of_ble_eq_true rfl) (Nat.le_of_ble_eq_true rfl) (Nat.le_of_ble_eq_true rfl) (Nat.le_of_ble_eq_true rfl) ?_
      exact ⟨rfl, rfl⟩
theorem k_layer_ok (h0 : g_0 l D s0) (hS : HS z ad Q N M) {v : Int32} (hv : ¬ v < 0 ∧ v < Q.L) : Ct l D s0 y_ST_checkLayer (Cond.code y_ST_checkLayer b_ST_checkLayer 2 none) (rk 2 1 6) [.ref (ad 0 0), .int v] M (fR none M) := by
  refine Ct.of h0 (by decide +kernel) rfl fun X hX h => ?_
  obtain ⟨p_, l', e_, R_, s_, m_, ar_, be_, me_, c_⟩ := X
  obtain rfl : l' = l := hX
  refine ri_iload_n h d_ST_checkLayer_0 rfl ?_
  refine ri_if_lt h 12 d_ST_checkLayer_1 (by decide) (fun c_1 => ?_) (fun c_1 => ?_)
  · exact absurd c_1 hv.1
  · refine ri_iload_n h d_ST_checkLayer_4 rfl ?_
    refine ri_aload_n h d_ST_checkLayer_5 rfl ?_
    refine ri_get h d_ST_checkLayer_6 fl_ST_52 (by first | assumption | exact hS.st | exact hS.mo | exact hS.out | exact hS.sb | exact hS.ce (by first | assumption | omega) | exact hS.ceb (by first | assumption | omega) | exact hS.sh (by first | assumption | omega) | exact hS.shb (by first | assumption | omega) | exact hS.pl (by first | assumption | omega) | exact hS.plb (by first | assumption | omega) | exact hS.fl (by first | assumption | omega) | exact gup_s | (refine gup_t (by assumption) ?_; first | assumption | exact gup_s | (refine gup_t (by assumption) ?_; first | assumption | exact gup_s | (refine gup_t (by assumption) ?_; first | assumption | exact gup_s)))) (by rfl) ?_
    refine ri_icmp_lt h 22 d_ST_checkLayer_9 (by decide) (fun c_9 => ?_) (fun c_9 => ?_)
    · refine ri_return h d_ST_checkLayer_22 (Nat.le_of_ble_eq_true rfl) (Nat.le_of_ble_eq_true rfl) ?_
      exact ⟨rfl, rfl⟩
    · exact absurd hv.2 c_9
theorem k_layer_no (h0 : g_0 l D s0) (hS : HS z ad Q N M) {v : Int32} (hv : ¬ (¬ v < 0 ∧ v < Q.L)) : Ct l D s0 y_ST_checkLayer (Cond.code y_ST_checkLayer b_ST_checkLayer 2 none) (rk 2 1 6) [.ref (ad 0 0), .int v] M (fE eIO M) := by
  refine Ct.of h0 (by decide +kernel) rfl fun X hX h => ?_
  obtain ⟨p_, l', e_, R_, s_, m_, ar_, be_, me_, c_⟩ := X
  obtain rfl : l' = l := hX
  refine ri_iload_n h d_ST_checkLayer_0 rfl ?_
  refine ri_if_lt h 12 d_ST_checkLayer_1 (by decide) (fun c_1 => ?_) (fun c_1 => ?_)
  · refine ri_throw h tw_254 d_ST_checkLayer_12 d_ST_checkLayer_15 d_ST_checkLayer_16 d_ST_checkLayer_18 d_ST_checkLayer_21 (Nat.le_of_ble_eq_true rfl) (Nat.le_of_ble_eq_true rfl) (Nat.le_of_ble_eq_true rfl) (Nat.le_of_ble_eq_true rfl) ?_
    exact ⟨rfl, rfl⟩
  · refine ri_iload_n h d_ST_checkLayer_4 rfl ?_
    refine ri_aload_n h d_ST_checkLayer_5 rfl ?_
    refine ri_get h d_ST_checkLayer_6 fl_ST_52 (by first | assumption | exact hS.st | exact hS.mo | exact hS.out | exact hS.sb | exact hS.ce (by first | assumption | omega) | exact hS.ceb (by first | assumption | omega) | exact hS.sh (by first | assumption | omega) | exact hS.shb (by first | assumption | omega) | exact hS.pl (by first | assumption | omega) | exact hS.plb (by first | assumption | omega) | exact hS.fl (by first | assumption | omega) | exact gup_s | (refine gup_t (by assumption) ?_; first | assumption | exact gup_s | (refine gup_t (by assumption) ?_; first | assumption | exact gup_s | (refine gup_t (by assumption) ?_; first | assumption | exact gup_s)))) (by rfl) ?_
    refine ri_icmp_lt h 22 d_ST_checkLayer_9 (by decide) (fun c_9 => ?_) (fun c_9 => ?_)
    · exact absurd ⟨c_1, c_9⟩ hv
    · refine ri_throw h tw_254 d_ST_checkLayer_12 d_ST_checkLayer_15 d_ST_checkLayer_16 d_ST_checkLayer_18 d_ST_checkLayer_21 (Nat.le_of_ble_eq_true rfl) (Nat.le_of_ble_eq_true rfl) (Nat.le_of_ble_eq_true rfl) (Nat.le_of_ble_eq_true rfl) ?_
      exact ⟨rfl, rfl⟩
theorem k_left_ok (h0 : g_0 l D s0) (hS : HS z ad Q N M) (hn : Q.nS < 120) : Ct l D s0 y_ST_checkShapesLeft (Cond.code y_ST_checkShapesLeft b_ST_checkShapesLeft 1 none) (rk 2 1 6) [.ref (ad 0 0)] M (fR none M) := by
  refine Ct.of h0 (by decide +kernel) rfl fun X hX h => ?_
  obtain ⟨p_, l', e_, R_, s_, m_, ar_, be_, me_, c_⟩ := X
  obtain rfl : l' = l := hX
  refine ri_aload_n h d_ST_checkShapesLeft_0 rfl ?_
  refine ri_get h d_ST_checkShapesLeft_1 fl_ST_16 (by first | assumption | exact hS.st | exact hS.mo | exact hS.out | exact hS.sb | exact hS.ce (by first | assumption | omega) | exact hS.ceb (by first | assumption | omega) | exact hS.sh (by first | assumption | omega) | exact hS.shb (by first | assumption | omega) | exact hS.pl (by first | assumption | omega) | exact hS.plb (by first | assumption | omega) | exact hS.fl (by first | assumption | omega) | exact gup_s | (refine gup_t (by assumption) ?_; first | assumption | exact gup_s | (refine gup_t (by assumption) ?_; first | assumption | exact gup_s | (refine gup_t (by assumption) ?_; first | assumption | exact gup_s)))) (by rfl) ?_
  refine ri_cVv_0 (r := (gR7, gT7, 3)) h d_ST_checkShapesLeft_4 cv_ST_56 (by first | exact hS.lcO | exact hS.lsO | exact hS.lpO | exact hS.cesO (by first | assumption | omega) | exact hS.cepO (by first | assumption | omega) | exact ⟨_, (by first | assumption | exact hS.st | exact hS.mo | exact hS.out | exact hS.sb | exact hS.ce (by first | assumption | omega) | exact hS.ceb (by first | assumption | omega) | exact hS.sh (by first | assumption | omega) | exact hS.shb (by first | assumption | omega) | exact hS.pl (by first | assumption | omega) | exact hS.plb (by first | assumption | omega) | exact hS.fl (by first | assumption | omega) | exact gup_s | (refine gup_t (by assumption) ?_; first | assumption | exact gup_s | (refine gup_t (by assumption) ?_; first | assumption | exact gup_s | (refine gup_t (by assumption) ?_; first | assumption | exact gup_s))))⟩) rfl (by first | exact k_size_lc h0 hS | exact k_size_ls h0 hS | exact k_size_lp h0 hS | exact k_size_ces h0 hS (by first | assumption | omega) | exact k_size_cep h0 hS (by first | assumption | omega)) (by exact Nat.le_of_ble_eq_true rfl) (by exact Nat.le_of_ble_eq_true rfl) (by exact Nat.le_of_ble_eq_true rfl) (by exact Nat.le_of_ble_eq_true rfl) (by exact Nat.le_of_ble_eq_true rfl) ?_
  refine ri_bipushN h 120 d_ST_checkShapesLeft_7 rfl ?_
  first | refine ri_icmpN_lt h 23 d_ST_checkShapesLeft_9 (by decide) (by omega) (by omega) (fun c_9 => ?_) (fun c_9 => ?_) | refine ri_icmp_lt h 23 d_ST_checkShapesLeft_9 (by decide) (fun c_9 => ?_) (fun c_9 => ?_)
  · refine ri_return h d_ST_checkShapesLeft_23 (Nat.le_of_ble_eq_true rfl) (Nat.le_of_ble_eq_true rfl) ?_
    exact ⟨rfl, rfl⟩
  · omega
theorem k_left_no (h0 : g_0 l D s0) (hS : HS z ad Q N M) (hW : WB Q) (hn : ¬ Q.nS < 120) : Ct l D s0 y_ST_checkShapesLeft (Cond.code y_ST_checkShapesLeft b_ST_checkShapesLeft 1 none) (rk 2 1 6) [.ref (ad 0 0)] M (fE eIS M) := by
  have hb := hW.2.1
  refine Ct.of h0 (by decide +kernel) rfl fun X hX h => ?_
  obtain ⟨p_, l', e_, R_, s_, m_, ar_, be_, me_, c_⟩ := X
  obtain rfl : l' = l := hX
  refine ri_aload_n h d_ST_checkShapesLeft_0 rfl ?_
  refine ri_get h d_ST_checkShapesLeft_1 fl_ST_16 (by first | assumption | exact hS.st | exact hS.mo | exact hS.out | exact hS.sb | exact hS.ce (by first | assumption | omega) | exact hS.ceb (by first | assumption | omega) | exact hS.sh (by first | assumption | omega) | exact hS.shb (by first | assumption | omega) | exact hS.pl (by first | assumption | omega) | exact hS.plb (by first | assumption | omega) | exact hS.fl (by first | assumption | omega) | exact gup_s | (refine gup_t (by assumption) ?_; first | assumption | exact gup_s | (refine gup_t (by assumption) ?_; first | assumption | exact gup_s | (refine gup_t (by assumption) ?_; first | assumption | exact gup_s)))) (by rfl) ?_
  refine ri_cVv_0 (r := (gR7, gT7, 3)) h d_ST_checkShapesLeft_4 cv_ST_56 (by first | exact hS.lcO | exact hS.lsO | exact hS.lpO | exact hS.cesO (by first | assumption | omega) | exact hS.cepO (by first | assumption | omega) | exact ⟨_, (by first | assumption | exact hS.st | exact hS.mo | exact hS.out | exact hS.sb | exact hS.ce (by first | assumption | omega) | exact hS.ceb (by first | assumption | omega) | exact hS.sh (by first | assumption | omega) | exact hS.shb (by first | assumption | omega) | exact hS.pl (by first | assumption | omega) | exact hS.plb (by first | assumption | omega) | exact hS.fl (by first | assumption | omega) | exact gup_s | (refine gup_t (by assumption) ?_; first | assumption | exact gup_s | (refine gup_t (by assumption) ?_; first | assumption | exact gup_s | (refine gup_t (by assumption) ?_; first | assumption | exact gup_s))))⟩) rfl (by first | exact k_size_lc h0 hS | exact k_size_ls h0 hS | exact k_size_lp h0 hS | exact k_size_ces h0 hS (by first | assumption | omega) | exact k_size_cep h0 hS (by first | assumption | omega)) (by exact Nat.le_of_ble_eq_true rfl) (by exact Nat.le_of_ble_eq_true rfl) (by exact Nat.le_of_ble_eq_true rfl) (by exact Nat.le_of_ble_eq_true rfl) (by exact Nat.le_of_ble_eq_true rfl) ?_
  refine ri_bipushN h 120 d_ST_checkShapesLeft_7 rfl ?_
  first | refine ri_icmpN_lt h 23 d_ST_checkShapesLeft_9 (by decide) (by omega) (by omega) (fun c_9 => ?_) (fun c_9 => ?_) | refine ri_icmp_lt h 23 d_ST_checkShapesLeft_9 (by decide) (fun c_9 => ?_) (fun c_9 => ?_)
  · omega
  · refine ri_throwW h tw_256 d_ST_checkShapesLeft_12 d_ST_checkShapesLeft_15 d_ST_checkShapesLeft_16 d_ST_checkShapesLeft_19 d_ST_checkShapesLeft_22 (Nat.le_of_ble_eq_true rfl) (Nat.le_of_ble_eq_true rfl) (Nat.le_of_ble_eq_true rfl) (Nat.le_of_ble_eq_true rfl) ?_
    exact ⟨rfl, rfl⟩
/-- within a million -/
abbrev nearB (v : Int64) : Prop := -1000000 ≤ v ∧ v ≤ 1000000
theorem k_near_ok (h0 : g_0 l D s0) {v : Int64} (hv : nearB v) : Ct l D s0 y_ST_checkNear (Cond.code y_ST_checkNear b_ST_checkNear 2 none) (rk 2 1 6) [.long v] M (fR none M) := by
  refine Ct.of h0 (by decide +kernel) rfl fun X hX h => ?_
  obtain ⟨p_, l', e_, R_, s_, m_, ar_, be_, me_, c_⟩ := X
  obtain rfl : l' = l := hX
  refine ri_lload_n h d_ST_checkNear_0 rfl ?_
  refine ri_ldc2 h (-1000000) d_ST_checkNear_1 kl_ST_258 ?_
  refine ri_lcmp_lt h 16 d_ST_checkNear_4 d_ST_checkNear_5 (by decide) (fun c_4 => ?_) (fun c_4 => ?_)
  · exact absurd c_4 (Int64.not_lt.mpr hv.1)
  · refine ri_lload_n h d_ST_checkNear_8 rfl ?_
    refine ri_ldc2 h 1000000 d_ST_checkNear_9 kl_ST_260 ?_
    refine ri_lcmp_le h 27 d_ST_checkNear_12 d_ST_checkNear_13 (by decide) (fun c_12 => ?_) (fun c_12 => ?_)
    · refine ri_return h d_ST_checkNear_27 (Nat.le_of_ble_eq_true rfl) (Nat.le_of_ble_eq_true rfl) ?_
      exact ⟨rfl, rfl⟩
    · exact absurd hv.2 c_12
theorem k_near_no (h0 : g_0 l D s0) {v : Int64} (hv : ¬ nearB v) : Ct l D s0 y_ST_checkNear (Cond.code y_ST_checkNear b_ST_checkNear 2 none) (rk 2 1 6) [.long v] M (fE eIA M) := by
  refine Ct.of h0 (by decide +kernel) rfl fun X hX h => ?_
  obtain ⟨p_, l', e_, R_, s_, m_, ar_, be_, me_, c_⟩ := X
  obtain rfl : l' = l := hX
  refine ri_lload_n h d_ST_checkNear_0 rfl ?_
  refine ri_ldc2 h (-1000000) d_ST_checkNear_1 kl_ST_258 ?_
  refine ri_lcmp_lt h 16 d_ST_checkNear_4 d_ST_checkNear_5 (by decide) (fun c_4 => ?_) (fun c_4 => ?_)
  · refine ri_throwW h tw_262 d_ST_checkNear_16 d_ST_checkNear_19 d_ST_checkNear_20 d_ST_checkNear_23 d_ST_checkNear_26 (Nat.le_of_ble_eq_true rfl) (Nat.le_of_ble_eq_true rfl) (Nat.le_of_ble_eq_true rfl) (Nat.le_of_ble_eq_true rfl) ?_
    exact ⟨rfl, rfl⟩
  · refine ri_lload_n h d_ST_checkNear_8 rfl ?_
    refine ri_ldc2 h 1000000 d_ST_checkNear_9 kl_ST_260 ?_
    refine ri_lcmp_le h 27 d_ST_checkNear_12 d_ST_checkNear_13 (by decide) (fun c_12 => ?_) (fun c_12 => ?_)
    · exact absurd ⟨Int64.not_lt.mp c_4, c_12⟩ hv
    · refine ri_throwW h tw_262 d_ST_checkNear_16 d_ST_checkNear_19 d_ST_checkNear_20 d_ST_checkNear_23 d_ST_checkNear_26 (Nat.le_of_ble_eq_true rfl) (Nat.le_of_ble_eq_true rfl) (Nat.le_of_ble_eq_true rfl) (Nat.le_of_ble_eq_true rfl) ?_
      exact ⟨rfl, rfl⟩
theorem k_few_ok (h0 : g_0 l D s0) (hS : HS z ad Q N M) (hc : c < Q.nC) (hn : (Q.ce c).size ≤ 3000) : Ct l D s0 y_ST_checkFewShapes (Cond.code y_ST_checkFewShapes b_ST_checkFewShapes 1 none) (rk 2 1 6) [.ref (ad 12 c)] M (fR none M) := by
  refine Ct.of h0 (by decide +kernel) rfl fun X hX h => ?_
  obtain ⟨p_, l', e_, R_, s_, m_, ar_, be_, me_, c_⟩ := X
  obtain rfl : l' = l := hX
  refine ri_aload_n h d_ST_checkFewShapes_0 rfl ?_
  refine ri_get h d_ST_checkFewShapes_1 fl_ST_163 (by first | assumption | exact hS.st | exact hS.mo | exact hS.out | exact hS.sb | exact hS.ce (by first | assumption | omega) | exact hS.ceb (by first | assumption | omega) | exact hS.sh (by first | assumption | omega) | exact hS.shb (by first | assumption | omega) | exact hS.pl (by first | assumption | omega) | exact hS.plb (by first | assumption | omega) | exact hS.fl (by first | assumption | omega) | exact gup_s | (refine gup_t (by assumption) ?_; first | assumption | exact gup_s | (refine gup_t (by assumption) ?_; first | assumption | exact gup_s | (refine gup_t (by assumption) ?_; first | assumption | exact gup_s)))) (by rfl) ?_
  refine ri_sipushN h 3000 d_ST_checkFewShapes_4 rfl ?_
  first | refine ri_icmpN_le h 21 d_ST_checkFewShapes_7 (by decide) (by omega) (by omega) (fun c_7 => ?_) (fun c_7 => ?_) | refine ri_icmp_le h 21 d_ST_checkFewShapes_7 (by decide) (fun c_7 => ?_) (fun c_7 => ?_)
  · refine ri_return h d_ST_checkFewShapes_21 (Nat.le_of_ble_eq_true rfl) (Nat.le_of_ble_eq_true rfl) ?_
    exact ⟨rfl, rfl⟩
  · omega
theorem k_few_no (h0 : g_0 l D s0) (hS : HS z ad Q N M) (hc : c < Q.nC) (hn : ¬ (Q.ce c).size ≤ 3000) (hb : (Q.ce c).size ≤ 5000) : Ct l D s0 y_ST_checkFewShapes (Cond.code y_ST_checkFewShapes b_ST_checkFewShapes 1 none) (rk 2 1 6) [.ref (ad 12 c)] M (fE eUO M) := by
  refine Ct.of h0 (by decide +kernel) rfl fun X hX h => ?_
  obtain ⟨p_, l', e_, R_, s_, m_, ar_, be_, me_, c_⟩ := X
  obtain rfl : l' = l := hX
  refine ri_aload_n h d_ST_checkFewShapes_0 rfl ?_
  refine ri_get h d_ST_checkFewShapes_1 fl_ST_163 (by first | assumption | exact hS.st | exact hS.mo | exact hS.out | exact hS.sb | exact hS.ce (by first | assumption | omega) | exact hS.ceb (by first | assumption | omega) | exact hS.sh (by first | assumption | omega) | exact hS.shb (by first | assumption | omega) | exact hS.pl (by first | assumption | omega) | exact hS.plb (by first | assumption | omega) | exact hS.fl (by first | assumption | omega) | exact gup_s | (refine gup_t (by assumption) ?_; first | assumption | exact gup_s | (refine gup_t (by assumption) ?_; first | assumption | exact gup_s | (refine gup_t (by assumption) ?_; first | assumption | exact gup_s)))) (by rfl) ?_
  refine ri_sipushN h 3000 d_ST_checkFewShapes_4 rfl ?_
  first | refine ri_icmpN_le h 21 d_ST_checkFewShapes_7 (by decide) (by omega) (by omega) (fun c_7 => ?_) (fun c_7 => ?_) | refine ri_icmp_le h 21 d_ST_checkFewShapes_7 (by decide) (fun c_7 => ?_) (fun c_7 => ?_)
  · omega
  · refine ri_throwW h tw_266 d_ST_checkFewShapes_10 d_ST_checkFewShapes_13 d_ST_checkFewShapes_14 d_ST_checkFewShapes_17 d_ST_checkFewShapes_20 (Nat.le_of_ble_eq_true rfl) (Nat.le_of_ble_eq_true rfl) (Nat.le_of_ble_eq_true rfl) (Nat.le_of_ble_eq_true rfl) ?_
    exact ⟨rfl, rfl⟩
end LI
