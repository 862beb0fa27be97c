/-! cell, polygon, path -/
theorem Mz {s0 : State} {z : Nat} {M : gH} (hz : gz s0 z) (hN : g_N s0 M) : M z = none := by
  cases h : M z with
  | none => rfl
  | some e => exact absurd (hN z e h) (Nat.not_le.mpr (gz_lt hz))
/-- the objects that the law holds stay where they are -/
def Ko (ad ad' : gA) : Prop := ad' 0 0 = ad 0 0 ∧ ad' 30 0 = ad 30 0 ∧ ad' 70 0 = ad 70 0
theorem Ko.rfl {ad : gA} : Ko ad ad := ⟨Eq.refl _, Eq.refl _, Eq.refl _⟩
theorem Ko.of {ad ad' : gA} {a b c : Nat} (h : ∀ k i, used a b c k i → ad' k i = ad k i) : Ko ad ad' := ⟨h 0 0 ⟨by omega, by omega, by omega⟩, h 30 0 ⟨by omega, by omega, by omega⟩, h 70 0 ⟨by omega, by omega, by omega⟩⟩
theorem HSC.hs {z : Nat} {ad : gA} {Q : CS} {N : MS} {r : CeR} {M : gH} (h : HSC z ad Q N r M) : HS z ad Q N M := by
  obtain ⟨dd, I, h1, h2, h3, -⟩ := h
  exact ⟨dd, I, h1, h2, h3⟩
theorem HSS.hs {z : Nat} {ad : gA} {Q : CS} {N : MS} {r : ShR} {M : gH} (h : HSS z ad Q N r M) : HS z ad Q N M := by
  obtain ⟨dd, I, h1, h2, h3, -⟩ := h
  exact ⟨dd, I, h1, h2, h3⟩
theorem HSP.hs {z : Nat} {ad : gA} {Q : CS} {N : MS} {r : PlR} {M : gH} (h : HSP z ad Q N r M) : HS z ad Q N M := by
  obtain ⟨dd, I, h1, h2, h3, -⟩ := h
  exact ⟨dd, I, h1, h2, h3⟩
abbrev r0C : CeR := ([], [], 0, 0, 0, (0, 0, 0, 0, 1))
abbrev r0S (c : Nat) (layer : Int32) (w : Int64) (ends : Int32) : ShR := (c, layer, w, ends, fun _ => 0, fun _ => 0, 0, 0, (0, 0, 0, 0, 1), fun _ => 0, fun _ => 0)
abbrev r0P (c of : Nat) (x y : Int64) (turn : Nat) : PlR := (c, of, x, y, turn, (0, 0, 0, 0, 1), 1, 1, 0, 0)
abbrev CS.addC (Q : CS) : CS := (Q.set_nC (Q.nC + 1)).set_ce (va_up Q.ce Q.nC r0C)
abbrev CS.addS0 (Q : CS) (r : ShR) : CS := (Q.set_nS (Q.nS + 1)).set_sh (va_up Q.sh Q.nS r)
abbrev CS.addS (Q : CS) (c : Nat) (r : ShR) : CS := (Q.addS0 r).set_ce (va_up Q.ce c ((Q.ce c).set_ss ((Q.ce c).ss ++ [Q.nS])))
abbrev CS.addP0 (Q : CS) (r : PlR) : CS := (Q.set_nP (Q.nP + 1)).set_pl (va_up Q.pl Q.nP r)
abbrev CS.addP (Q : CS) (c : Nat) (r : PlR) : CS := (Q.addP0 r).set_ce (va_up Q.ce c ((Q.ce c).set_ps ((Q.ce c).ps ++ [Q.nP])))
abbrev fA (z : Nat) (ad : gA) (v : Option Value) (Q' : CS) (N : MS) : gR → gH → Prop := fS v (fun M' => ∃ ad' : gA, Ko ad ad' ∧ HS z ad' Q' N M')
section ME
variable {l : Launch} {D : gD} {s0 : State} {M : gH} {z : Nat} {ad : gA} {Q : CS} {N : MS} {c i : Nat}
theorem k_cell_ok (h0 : g_0 l D s0) (hz : gz s0 z) (hS : HS z ad Q N M) (hW : WB Q) (hT : WTQ Q) (hn : Q.nC < 20) : Ct l D s0 y_ST_cell (Cond.code y_ST_cell b_ST_cell 1 (some .int)) rkC [.ref (ad 0 0)] M (fA z ad (some (.int (nI Q.nC))) Q.addC N) := by
  refine Ct.of h0 (by decide +kernel) rfl fun X hX h => ?_
  obtain ⟨p_, l', e_, R_, s_, m_, ar_, be_, me_, c_⟩ := X
  obtain rfl : l' = l := hX
  refine ri_aload_n h d_ST_cell_0 rfl ?_
  refine ri_get h d_ST_cell_1 fl_ST_10 (by first | assumption | exact hS.st | exact hS.mo | exact hS.out | exact hS.sb | exact hS.ce (by first | assumption | omega) | exact hS.ceb (by first | assumption | omega) | exact hS.sh (by first | assumption | omega) | exact hS.shb (by first | assumption | omega) | exact hS.pl (by first | assumption | omega) | exact hS.plb (by first | assumption | omega) | exact hS.fl (by first | assumption | omega) | exact gup_s | (refine gup_t (by assumption) ?_; first | assumption | exact gup_s | (refine gup_t (by assumption) ?_; first | assumption | exact gup_s | (refine gup_t (by assumption) ?_; first | assumption | exact gup_s)))) (by rfl) ?_
  refine ri_cVv_0 (r := (gR7, gT7, 3)) h d_ST_cell_4 cv_ST_56 (by first | exact hS.lcO | exact hS.lsO | exact hS.lpO | exact hS.cesO (by first | assumption | omega) | exact hS.cepO (by first | assumption | omega) | exact ⟨_, (by first | assumption | exact hS.st | exact hS.mo | exact hS.out | exact hS.sb | exact hS.ce (by first | assumption | omega) | exact hS.ceb (by first | assumption | omega) | exact hS.sh (by first | assumption | omega) | exact hS.shb (by first | assumption | omega) | exact hS.pl (by first | assumption | omega) | exact hS.plb (by first | assumption | omega) | exact hS.fl (by first | assumption | omega) | exact gup_s | (refine gup_t (by assumption) ?_; first | assumption | exact gup_s | (refine gup_t (by assumption) ?_; first | assumption | exact gup_s | (refine gup_t (by assumption) ?_; first | assumption | exact gup_s))))⟩) rfl (by first | exact k_size_lc h0 hS | exact k_size_ls h0 hS | exact k_size_lp h0 hS | exact k_size_ces h0 hS (by first | assumption | omega) | exact k_size_cep h0 hS (by first | assumption | omega)) (by exact Nat.le_of_ble_eq_true rfl) (by exact Nat.le_of_ble_eq_true rfl) (by exact Nat.le_of_ble_eq_true rfl) (by exact Nat.le_of_ble_eq_true rfl) (by exact Nat.le_of_ble_eq_true rfl) ?_
  refine ri_bipushN h 20 d_ST_cell_7 rfl ?_
  first | refine ri_icmpN_lt h 22 d_ST_cell_9 (by decide) (by omega) (by omega) (fun c_9 => ?_) (fun c_9 => ?_) | refine ri_icmp_lt h 22 d_ST_cell_9 (by decide) (fun c_9 => ?_) (fun c_9 => ?_)
  · refine ri_aload_n h d_ST_cell_22 rfl ?_
    refine ri_get h d_ST_cell_23 fl_ST_10 (by first | assumption | exact hS.st | exact hS.mo | exact hS.out | exact hS.sb | exact hS.ce (by first | assumption | omega) | exact hS.ceb (by first | assumption | omega) | exact hS.sh (by first | assumption | omega) | exact hS.shb (by first | assumption | omega) | exact hS.pl (by first | assumption | omega) | exact hS.plb (by first | assumption | omega) | exact hS.fl (by first | assumption | omega) | exact gup_s | (refine gup_t (by assumption) ?_; first | assumption | exact gup_s | (refine gup_t (by assumption) ?_; first | assumption | exact gup_s | (refine gup_t (by assumption) ?_; first | assumption | exact gup_s)))) (by rfl) ?_
    refine ri_new h d_ST_cell_26 nw_ST_67 (Nat.le_of_ble_eq_true rfl) (Nat.le_of_ble_eq_true rfl) (fun q_26 hq_26 => ?_)
    refine ri_dup h d_ST_cell_29 rfl ?_
    refine ri_callIN h [] [.ref q_26, .ref (ad 1 0)] d_ST_cell_30 ci_ST_69 rfl rfl (Nat.le_of_ble_eq_true rfl) (Nat.le_of_ble_eq_true rfl) (Nat.le_of_ble_eq_true rfl) (Nat.le_of_ble_eq_true rfl) (Nat.le_of_ble_eq_true rfl) (k_Cl_init h0 hz gup_s) fV_x ?_
    rintro v9 M9 ⟨hv, q1, q2, q3, hF, rfl⟩
    cases hv
    obtain ⟨ad', e1, e2, hC⟩ := hS.newCell hT hq_26 hF
    refine ri_gen (P := HSC z ad' Q N _) hC (fun M hC => ?_)
    have u0 := e2 0 0 ⟨by omega, by omega, by omega⟩
    have u1 := e2 1 0 ⟨by omega, by omega, by omega⟩
    rw [← u0, ← u1, ← e1]
    have hS := hC.hs
    refine ri_N (fun hNN => ?_)
    have hMz := Mz hz hNN
    refine ri_dVv_1 (r := (gR7, gT7, 3)) h d_ST_cell_33 cv_ST_70 (by first | exact hS.lcO | exact hS.lsO | exact hS.lpO | exact hS.cesO (by first | assumption | omega) | exact hS.cepO (by first | assumption | omega) | exact ⟨_, (by first | assumption | exact hS.st | exact hS.mo | exact hS.out | exact hS.sb | exact hS.ce (by first | assumption | omega) | exact hS.ceb (by first | assumption | omega) | exact hS.sh (by first | assumption | omega) | exact hS.shb (by first | assumption | omega) | exact hS.pl (by first | assumption | omega) | exact hS.plb (by first | assumption | omega) | exact hS.fl (by first | assumption | omega) | exact gup_s | (refine gup_t (by assumption) ?_; first | assumption | exact gup_s | (refine gup_t (by assumption) ?_; first | assumption | exact gup_s | (refine gup_t (by assumption) ?_; first | assumption | exact gup_s))))⟩) rfl (k_addC h0 hz hMz hC (by omega)) (Nat.le_of_ble_eq_true rfl) (Nat.le_of_ble_eq_true rfl) (Nat.le_of_ble_eq_true rfl) (Nat.le_of_ble_eq_true rfl) (Nat.le_of_ble_eq_true rfl) (fun M hS => ?_)
    refine ri_pop h d_ST_cell_36 rfl ?_
    refine ri_aload_n h d_ST_cell_37 rfl ?_
    refine ri_get h d_ST_cell_38 fl_ST_10 (by first | assumption | exact hS.st | exact hS.mo | exact hS.out | exact hS.sb | exact hS.ce (by first | assumption | omega) | exact hS.ceb (by first | assumption | omega) | exact hS.sh (by first | assumption | omega) | exact hS.shb (by first | assumption | omega) | exact hS.pl (by first | assumption | omega) | exact hS.plb (by first | assumption | omega) | exact hS.fl (by first | assumption | omega) | exact gup_s | (refine gup_t (by assumption) ?_; first | assumption | exact gup_s | (refine gup_t (by assumption) ?_; first | assumption | exact gup_s | (refine gup_t (by assumption) ?_; first | assumption | exact gup_s)))) (by rfl) ?_
    refine ri_cVv_0 (r := (gR7, gT7, 3)) h d_ST_cell_41 cv_ST_56 (by first | exact hS.lcO | exact hS.lsO | exact hS.lpO | exact hS.cesO (by first | assumption | omega) | exact hS.cepO (by first | assumption | omega) | exact ⟨_, (by first | assumption | exact hS.st | exact hS.mo | exact hS.out | exact hS.sb | exact hS.ce (by first | assumption | omega) | exact hS.ceb (by first | assumption | omega) | exact hS.sh (by first | assumption | omega) | exact hS.shb (by first | assumption | omega) | exact hS.pl (by first | assumption | omega) | exact hS.plb (by first | assumption | omega) | exact hS.fl (by first | assumption | omega) | exact gup_s | (refine gup_t (by assumption) ?_; first | assumption | exact gup_s | (refine gup_t (by assumption) ?_; first | assumption | exact gup_s | (refine gup_t (by assumption) ?_; first | assumption | exact gup_s))))⟩) rfl (by first | exact k_size_lc h0 hS | exact k_size_ls h0 hS | exact k_size_lp h0 hS | exact k_size_ces h0 hS (by first | assumption | omega) | exact k_size_cep h0 hS (by first | assumption | omega)) (by exact Nat.le_of_ble_eq_true rfl) (by exact Nat.le_of_ble_eq_true rfl) (by exact Nat.le_of_ble_eq_true rfl) (by exact Nat.le_of_ble_eq_true rfl) (by exact Nat.le_of_ble_eq_true rfl) ?_
    refine ri_iconstN h 1 d_ST_cell_44 rfl ?_
    first | refine ri_isubN h d_ST_cell_45 (by omega) ?_ | refine ri_isub h d_ST_cell_45 ?_
    refine ri_ireturn h d_ST_cell_46 (Nat.le_of_ble_eq_true rfl) (Nat.le_of_ble_eq_true rfl) ?_
    exact ⟨congrArg (fun x => Sum.inl (some (Value.int x))) (nI_sub (a := Q.nC + 1) (b := 1) (by omega)), ad', Ko.of e2, hS⟩
  · omega
theorem k_cell_no (h0 : g_0 l D s0) (hS : HS z ad Q N M) (hW : WB Q) (hn : ¬ Q.nC < 20) : Ct l D s0 y_ST_cell (Cond.code y_ST_cell b_ST_cell 1 (some .int)) rkC [.ref (ad 0 0)] M (fE eIS M) := by
  have hb := hW.1
  refine Ct.of h0 (by decide +kernel) rfl fun X hX h => ?_
  obtain ⟨p_, l', e_, R_, s_, m_, ar_, be_, me_, c_⟩ := X
  obtain rfl : l' = l := hX
  refine ri_aload_n h d_ST_cell_0 rfl ?_
  refine ri_get h d_ST_cell_1 fl_ST_10 (by first | assumption | exact hS.st | exact hS.mo | exact hS.out | exact hS.sb | exact hS.ce (by first | assumption | omega) | exact hS.ceb (by first | assumption | omega) | exact hS.sh (by first | assumption | omega) | exact hS.shb (by first | assumption | omega) | exact hS.pl (by first | assumption | omega) | exact hS.plb (by first | assumption | omega) | exact hS.fl (by first | assumption | omega) | exact gup_s | (refine gup_t (by assumption) ?_; first | assumption | exact gup_s | (refine gup_t (by assumption) ?_; first | assumption | exact gup_s | (refine gup_t (by assumption) ?_; first | assumption | exact gup_s)))) (by rfl) ?_
  refine ri_cVv_0 (r := (gR7, gT7, 3)) h d_ST_cell_4 cv_ST_56 (by first | exact hS.lcO | exact hS.lsO | exact hS.lpO | exact hS.cesO (by first | assumption | omega) | exact hS.cepO (by first | assumption | omega) | exact ⟨_, (by first | assumption | exact hS.st | exact hS.mo | exact hS.out | exact hS.sb | exact hS.ce (by first | assumption | omega) | exact hS.ceb (by first | assumption | omega) | exact hS.sh (by first | assumption | omega) | exact hS.shb (by first | assumption | omega) | exact hS.pl (by first | assumption | omega) | exact hS.plb (by first | assumption | omega) | exact hS.fl (by first | assumption | omega) | exact gup_s | (refine gup_t (by assumption) ?_; first | assumption | exact gup_s | (refine gup_t (by assumption) ?_; first | assumption | exact gup_s | (refine gup_t (by assumption) ?_; first | assumption | exact gup_s))))⟩) rfl (by first | exact k_size_lc h0 hS | exact k_size_ls h0 hS | exact k_size_lp h0 hS | exact k_size_ces h0 hS (by first | assumption | omega) | exact k_size_cep h0 hS (by first | assumption | omega)) (by exact Nat.le_of_ble_eq_true rfl) (by exact Nat.le_of_ble_eq_true rfl) (by exact Nat.le_of_ble_eq_true rfl) (by exact Nat.le_of_ble_eq_true rfl) (by exact Nat.le_of_ble_eq_true rfl) ?_
  refine ri_bipushN h 20 d_ST_cell_7 rfl ?_
  first | refine ri_icmpN_lt h 22 d_ST_cell_9 (by decide) (by omega) (by omega) (fun c_9 => ?_) (fun c_9 => ?_) | refine ri_icmp_lt h 22 d_ST_cell_9 (by decide) (fun c_9 => ?_) (fun c_9 => ?_)
  · omega
  · refine ri_throw h tw_62 d_ST_cell_12 d_ST_cell_15 d_ST_cell_16 d_ST_cell_18 d_ST_cell_21 (Nat.le_of_ble_eq_true rfl) (Nat.le_of_ble_eq_true rfl) (Nat.le_of_ble_eq_true rfl) (Nat.le_of_ble_eq_true rfl) ?_
    exact ⟨rfl, rfl⟩
theorem k_keep (h0 : g_0 l D s0) (hz : gz s0 z) {r : ShR} (hC : HSS z ad Q N r M) (hW : WB Q) (hn : Q.nS < 120) (hc : c < Q.nC) : Ct l D s0 y_ST_keepShape (Cond.code y_ST_keepShape b_ST_keepShape 3 (some .int)) (rk 8 2 2000) [.ref (ad 0 0), .ref (ad 12 c), .ref (ad 18 Q.nS)] M (fS (some (.int (nI Q.nS))) (HS z ad (Q.addS c r) N)) := by
  have hW4 := hW.2.2.2 c hc
  refine Ct.of h0 (by decide +kernel) rfl fun X hX h => ?_
  obtain ⟨p_, l', e_, R_, s_, m_, ar_, be_, me_, c_⟩ := X
  obtain rfl : l' = l := hX
  have hS := hC.hs
  refine ri_aload_n h d_ST_keepShape_0 rfl ?_
  refine ri_get h d_ST_keepShape_1 fl_ST_16 (by first | assumption | exact hS.st | exact hS.mo | exact hS.out | exact hS.sb | exact hS.ce (by first | assumption | omega) | exact hS.ceb (by first | assumption | omega) | exact hS.sh (by first | assumption | omega) | exact hS.shb (by first | assumption | omega) | exact hS.pl (by first | assumption | omega) | exact hS.plb (by first | assumption | omega) | exact hS.fl (by first | assumption | omega) | exact gup_s | (refine gup_t (by assumption) ?_; first | assumption | exact gup_s | (refine gup_t (by assumption) ?_; first | assumption | exact gup_s | (refine gup_t (by assumption) ?_; first | assumption | exact gup_s)))) (by rfl) ?_
  refine ri_aload_n h d_ST_keepShape_4 rfl ?_
  refine ri_N (fun hNN => ?_)
  have hMz := Mz hz hNN
  refine ri_dVv_1 (r := (gR7, gT7, 3)) h d_ST_keepShape_5 cv_ST_70 (by first | exact hS.lcO | exact hS.lsO | exact hS.lpO | exact hS.cesO (by first | assumption | omega) | exact hS.cepO (by first | assumption | omega) | exact ⟨_, (by first | assumption | exact hS.st | exact hS.mo | exact hS.out | exact hS.sb | exact hS.ce (by first | assumption | omega) | exact hS.ceb (by first | assumption | omega) | exact hS.sh (by first | assumption | omega) | exact hS.shb (by first | assumption | omega) | exact hS.pl (by first | assumption | omega) | exact hS.plb (by first | assumption | omega) | exact hS.fl (by first | assumption | omega) | exact gup_s | (refine gup_t (by assumption) ?_; first | assumption | exact gup_s | (refine gup_t (by assumption) ?_; first | assumption | exact gup_s | (refine gup_t (by assumption) ?_; first | assumption | exact gup_s))))⟩) rfl (k_addS h0 hz hMz hC (by omega)) (Nat.le_of_ble_eq_true rfl) (Nat.le_of_ble_eq_true rfl) (Nat.le_of_ble_eq_true rfl) (Nat.le_of_ble_eq_true rfl) (Nat.le_of_ble_eq_true rfl) (fun M hS => ?_)
  refine ri_pop h d_ST_keepShape_8 rfl ?_
  refine ri_aload_n h d_ST_keepShape_9 rfl ?_
  refine ri_get h d_ST_keepShape_10 fl_ST_269 (by first | assumption | exact hS.st | exact hS.mo | exact hS.out | exact hS.sb | exact hS.ce (by first | assumption | omega) | exact hS.ceb (by first | assumption | omega) | exact hS.sh (by first | assumption | omega) | exact hS.shb (by first | assumption | omega) | exact hS.pl (by first | assumption | omega) | exact hS.plb (by first | assumption | omega) | exact hS.fl (by first | assumption | omega) | exact gup_s | (refine gup_t (by assumption) ?_; first | assumption | exact gup_s | (refine gup_t (by assumption) ?_; first | assumption | exact gup_s | (refine gup_t (by assumption) ?_; first | assumption | exact gup_s)))) (by rfl) ?_
  refine ri_aload_n h d_ST_keepShape_13 rfl ?_
  refine ri_N (fun hNN => ?_)
  have hMz := Mz hz hNN
  refine ri_dVv_1 (r := (gR7, gT7, 3)) h d_ST_keepShape_14 cv_ST_70 (by first | exact hS.lcO | exact hS.lsO | exact hS.lpO | exact hS.cesO (by first | assumption | omega) | exact hS.cepO (by first | assumption | omega) | exact ⟨_, (by first | assumption | exact hS.st | exact hS.mo | exact hS.out | exact hS.sb | exact hS.ce (by first | assumption | omega) | exact hS.ceb (by first | assumption | omega) | exact hS.sh (by first | assumption | omega) | exact hS.shb (by first | assumption | omega) | exact hS.pl (by first | assumption | omega) | exact hS.plb (by first | assumption | omega) | exact hS.fl (by first | assumption | omega) | exact gup_s | (refine gup_t (by assumption) ?_; first | assumption | exact gup_s | (refine gup_t (by assumption) ?_; first | assumption | exact gup_s | (refine gup_t (by assumption) ?_; first | assumption | exact gup_s))))⟩) rfl (k_addCS (s := Q.nS) h0 hz hMz hS hc (Nat.lt_succ_self _) (fun s hs => Nat.lt_succ_of_lt (hW4.2.2.1 s hs)) (Nat.lt_of_le_of_lt hW4.1 (by decide))) (Nat.le_of_ble_eq_true rfl) (Nat.le_of_ble_eq_true rfl) (Nat.le_of_ble_eq_true rfl) (Nat.le_of_ble_eq_true rfl) (Nat.le_of_ble_eq_true rfl) (fun M hS => ?_)
  refine ri_pop h d_ST_keepShape_17 rfl ?_
  refine ri_aload_n h d_ST_keepShape_18 rfl ?_
  refine ri_get h d_ST_keepShape_19 fl_ST_16 (by first | assumption | exact hS.st | exact hS.mo | exact hS.out | exact hS.sb | exact hS.ce (by first | assumption | omega) | exact hS.ceb (by first | assumption | omega) | exact hS.sh (by first | assumption | omega) | exact hS.shb (by first | assumption | omega) | exact hS.pl (by first | assumption | omega) | exact hS.plb (by first | assumption | omega) | exact hS.fl (by first | assumption | omega) | exact gup_s | (refine gup_t (by assumption) ?_; first | assumption | exact gup_s | (refine gup_t (by assumption) ?_; first | assumption | exact gup_s | (refine gup_t (by assumption) ?_; first | assumption | exact gup_s)))) (by rfl) ?_
  refine ri_cVv_0 (r := (gR7, gT7, 3)) h d_ST_keepShape_22 cv_ST_56 (by first | exact hS.lcO | exact hS.lsO | exact hS.lpO | exact hS.cesO (by first | assumption | omega) | exact hS.cepO (by first | assumption | omega) | exact ⟨_, (by first | assumption | exact hS.st | exact hS.mo | exact hS.out | exact hS.sb | exact hS.ce (by first | assumption | omega) | exact hS.ceb (by first | assumption | omega) | exact hS.sh (by first | assumption | omega) | exact hS.shb (by first | assumption | omega) | exact hS.pl (by first | assumption | omega) | exact hS.plb (by first | assumption | omega) | exact hS.fl (by first | assumption | omega) | exact gup_s | (refine gup_t (by assumption) ?_; first | assumption | exact gup_s | (refine gup_t (by assumption) ?_; first | assumption | exact gup_s | (refine gup_t (by assumption) ?_; first | assumption | exact gup_s))))⟩) rfl (by first | exact k_size_lc h0 hS | exact k_size_ls h0 hS | exact k_size_lp h0 hS | exact k_size_ces h0 hS (by first | assumption | omega) | exact k_size_cep h0 hS (by first | assumption | omega)) (by exact Nat.le_of_ble_eq_true rfl) (by exact Nat.le_of_ble_eq_true rfl) (by exact Nat.le_of_ble_eq_true rfl) (by exact Nat.le_of_ble_eq_true rfl) (by exact Nat.le_of_ble_eq_true rfl) ?_
  refine ri_iconstN h 1 d_ST_keepShape_25 rfl ?_
  first | refine ri_isubN h d_ST_keepShape_26 (by omega) ?_ | refine ri_isub h d_ST_keepShape_26 ?_
  refine ri_ireturn h d_ST_keepShape_27 (Nat.le_of_ble_eq_true rfl) (Nat.le_of_ble_eq_true rfl) ?_
  exact ⟨congrArg (fun x => Sum.inl (some (Value.int x))) (nI_sub (a := Q.nS + 1) (b := 1) (by omega)), hS⟩
theorem k_polygon_ok (h0 : g_0 l D s0) (hz : gz s0 z) (hS : HS z ad Q N M) (hW : WB Q) (hT : WTQ Q) (hc : c < Q.nC) {v : Int32} (hv : ¬ v < 0 ∧ v < Q.L) (hn : Q.nS < 120) : Ct l D s0 y_ST_polygon (Cond.code y_ST_polygon b_ST_polygon 4 (some .int)) rkC [.ref (ad 0 0), .int (nI c), .int v] M (fA z ad (some (.int (nI Q.nS))) (Q.addS c (r0S c v 0 0)) N) := by
  refine Ct.of h0 (by decide +kernel) rfl fun X hX h => ?_
  obtain ⟨p_, l', e_, R_, s_, m_, ar_, be_, me_, c_⟩ := X
  obtain rfl : l' = l := hX
  refine ri_aload_n h d_ST_polygon_0 rfl ?_
  refine ri_iload_n h d_ST_polygon_1 rfl ?_
  refine ri_cVv_1 (r := (gR5, gT5, 8)) h d_ST_polygon_2 cv_ST_74 (by first | exact hS.lcO | exact hS.lsO | exact hS.lpO | exact hS.cesO (by first | assumption | omega) | exact hS.cepO (by first | assumption | omega) | exact ⟨_, (by first | assumption | exact hS.st | exact hS.mo | exact hS.out | exact hS.sb | exact hS.ce (by first | assumption | omega) | exact hS.ceb (by first | assumption | omega) | exact hS.sh (by first | assumption | omega) | exact hS.shb (by first | assumption | omega) | exact hS.pl (by first | assumption | omega) | exact hS.plb (by first | assumption | omega) | exact hS.fl (by first | assumption | omega) | exact gup_s | (refine gup_t (by assumption) ?_; first | assumption | exact gup_s | (refine gup_t (by assumption) ?_; first | assumption | exact gup_s | (refine gup_t (by assumption) ?_; first | assumption | exact gup_s))))⟩) rfl (k_known_ok h0 hS hW hc) (Nat.le_of_ble_eq_true rfl) (Nat.le_of_ble_eq_true rfl) (Nat.le_of_ble_eq_true rfl) (Nat.le_of_ble_eq_true rfl) (Nat.le_of_ble_eq_true rfl) ?_
  refine ri_astore_n h d_ST_polygon_5 (Nat.le_of_ble_eq_true rfl) ?_
  refine ri_aload_n h d_ST_polygon_6 rfl ?_
  refine ri_iload_n h d_ST_polygon_7 rfl ?_
  refine ri_cV0_1 (r := (gR5, gT5, 8)) h d_ST_polygon_8 cv_ST_78 (by first | exact hS.lcO | exact hS.lsO | exact hS.lpO | exact hS.cesO (by first | assumption | omega) | exact hS.cepO (by first | assumption | omega) | exact ⟨_, (by first | assumption | exact hS.st | exact hS.mo | exact hS.out | exact hS.sb | exact hS.ce (by first | assumption | omega) | exact hS.ceb (by first | assumption | omega) | exact hS.sh (by first | assumption | omega) | exact hS.shb (by first | assumption | omega) | exact hS.pl (by first | assumption | omega) | exact hS.plb (by first | assumption | omega) | exact hS.fl (by first | assumption | omega) | exact gup_s | (refine gup_t (by assumption) ?_; first | assumption | exact gup_s | (refine gup_t (by assumption) ?_; first | assumption | exact gup_s | (refine gup_t (by assumption) ?_; first | assumption | exact gup_s))))⟩) rfl (k_layer_ok h0 hS hv) (Nat.le_of_ble_eq_true rfl) (Nat.le_of_ble_eq_true rfl) (Nat.le_of_ble_eq_true rfl) (Nat.le_of_ble_eq_true rfl) (Nat.le_of_ble_eq_true rfl) ?_
  refine ri_aload_n h d_ST_polygon_11 rfl ?_
  refine ri_cV0_0 (r := (gR5, gT5, 8)) h d_ST_polygon_12 cv_ST_82 (by first | exact hS.lcO | exact hS.lsO | exact hS.lpO | exact hS.cesO (by first | assumption | omega) | exact hS.cepO (by first | assumption | omega) | exact ⟨_, (by first | assumption | exact hS.st | exact hS.mo | exact hS.out | exact hS.sb | exact hS.ce (by first | assumption | omega) | exact hS.ceb (by first | assumption | omega) | exact hS.sh (by first | assumption | omega) | exact hS.shb (by first | assumption | omega) | exact hS.pl (by first | assumption | omega) | exact hS.plb (by first | assumption | omega) | exact hS.fl (by first | assumption | omega) | exact gup_s | (refine gup_t (by assumption) ?_; first | assumption | exact gup_s | (refine gup_t (by assumption) ?_; first | assumption | exact gup_s | (refine gup_t (by assumption) ?_; first | assumption | exact gup_s))))⟩) rfl (k_left_ok h0 hS hn) (Nat.le_of_ble_eq_true rfl) (Nat.le_of_ble_eq_true rfl) (Nat.le_of_ble_eq_true rfl) (Nat.le_of_ble_eq_true rfl) (Nat.le_of_ble_eq_true rfl) ?_
  refine ri_aload_n h d_ST_polygon_15 rfl ?_
  refine ri_aload_n h d_ST_polygon_16 rfl ?_
  refine ri_new h d_ST_polygon_17 nw_ST_85 (Nat.le_of_ble_eq_true rfl) (Nat.le_of_ble_eq_true rfl) (fun q_17 hq_17 => ?_)
  refine ri_dup h d_ST_polygon_20 rfl ?_
  refine ri_iload_n h d_ST_polygon_21 rfl ?_
  refine ri_lconst h 0 d_ST_polygon_22 rfl ?_
  refine ri_iconst h 0 d_ST_polygon_23 rfl ?_
  refine ri_callI h [.int v, .long 0, .int 0] [.ref q_17, .ref (ad 12 c), .ref (ad 0 0)] d_ST_polygon_24 ci_ST_87 rfl rfl (Nat.le_of_ble_eq_true rfl) (Nat.le_of_ble_eq_true rfl) (Nat.le_of_ble_eq_true rfl) (Nat.le_of_ble_eq_true rfl) (Nat.le_of_ble_eq_true rfl) (k_Sh_init h0 v 0 0 gup_s) fV_x ?_
  rintro v9 M9 ⟨hv9, q1, q2, q3, q4, q5, hF, rfl⟩
  cases hv9
  obtain ⟨ad', e1, e2, hC⟩ := hS.newShape hT c hq_17 hF
  refine ri_gen (P := HSS z ad' Q N _) hC (fun M hC => ?_)
  have u0 := e2 0 0 ⟨by omega, by omega, by omega⟩
  have u1 := e2 12 c ⟨fun _ _ => hc, by omega, by omega⟩
  rw [← u0, ← u1, ← e1]
  have hS := hC.hs
  refine ri_dVv_2 (r := (gR5, gT5, 8)) h d_ST_polygon_27 cv_ST_90 (by first | exact hS.lcO | exact hS.lsO | exact hS.lpO | exact hS.cesO (by first | assumption | omega) | exact hS.cepO (by first | assumption | omega) | exact ⟨_, (by first | assumption | exact hS.st | exact hS.mo | exact hS.out | exact hS.sb | exact hS.ce (by first | assumption | omega) | exact hS.ceb (by first | assumption | omega) | exact hS.sh (by first | assumption | omega) | exact hS.shb (by first | assumption | omega) | exact hS.pl (by first | assumption | omega) | exact hS.plb (by first | assumption | omega) | exact hS.fl (by first | assumption | omega) | exact gup_s | (refine gup_t (by assumption) ?_; first | assumption | exact gup_s | (refine gup_t (by assumption) ?_; first | assumption | exact gup_s | (refine gup_t (by assumption) ?_; first | assumption | exact gup_s))))⟩) rfl (k_keep h0 hz hC hW hn hc) (Nat.le_of_ble_eq_true rfl) (Nat.le_of_ble_eq_true rfl) (Nat.le_of_ble_eq_true rfl) (Nat.le_of_ble_eq_true rfl) (Nat.le_of_ble_eq_true rfl) (fun M hS => ?_)
  refine ri_ireturn h d_ST_polygon_30 (Nat.le_of_ble_eq_true rfl) (Nat.le_of_ble_eq_true rfl) ?_
  exact ⟨rfl, ad', Ko.of e2, hS⟩
theorem k_polygon_no1 (h0 : g_0 l D s0) (hS : HS z ad Q N M) (hW : WB Q) {p : Int32} (hp : ¬ ∃ c, c < Q.nC ∧ p = nI c) {v : Int32} : Ct l D s0 y_ST_polygon (Cond.code y_ST_polygon b_ST_polygon 4 (some .int)) rkC [.ref (ad 0 0), .int p, .int v] M (fE eIO M) := by
  refine Ct.of h0 (by decide +kernel) rfl fun X hX h => ?_
  obtain ⟨p_, l', e_, R_, s_, m_, ar_, be_, me_, c_⟩ := X
  obtain rfl : l' = l := hX
  refine ri_aload_n h d_ST_polygon_0 rfl ?_
  refine ri_iload_n h d_ST_polygon_1 rfl ?_
  refine ri_eV_1 (r := (gR5, gT5, 8)) h d_ST_polygon_2 cv_ST_74 (by first | exact hS.lcO | exact hS.lsO | exact hS.lpO | exact hS.cesO (by first | assumption | omega) | exact hS.cepO (by first | assumption | omega) | exact ⟨_, (by first | assumption | exact hS.st | exact hS.mo | exact hS.out | exact hS.sb | exact hS.ce (by first | assumption | omega) | exact hS.ceb (by first | assumption | omega) | exact hS.sh (by first | assumption | omega) | exact hS.shb (by first | assumption | omega) | exact hS.pl (by first | assumption | omega) | exact hS.plb (by first | assumption | omega) | exact hS.fl (by first | assumption | omega) | exact gup_s | (refine gup_t (by assumption) ?_; first | assumption | exact gup_s | (refine gup_t (by assumption) ?_; first | assumption | exact gup_s | (refine gup_t (by assumption) ?_; first | assumption | exact gup_s))))⟩) rfl (k_known_no h0 hS hW hp) (Nat.le_of_ble_eq_true rfl) (Nat.le_of_ble_eq_true rfl) (Nat.le_of_ble_eq_true rfl) (Nat.le_of_ble_eq_true rfl) (Nat.le_of_ble_eq_true rfl) ?_
  exact ⟨rfl, rfl⟩
theorem k_polygon_no2 (h0 : g_0 l D s0) (hS : HS z ad Q N M) (hW : WB Q) (hc : c < Q.nC) {v : Int32} (hv : ¬ (¬ v < 0 ∧ v < Q.L)) : Ct l D s0 y_ST_polygon (Cond.code y_ST_polygon b_ST_polygon 4 (some .int)) rkC [.ref (ad 0 0), .int (nI c), .int v] M (fE eIO M) := by
  refine Ct.of h0 (by decide +kernel) rfl fun X hX h => ?_
  obtain ⟨p_, l', e_, R_, s_, m_, ar_, be_, me_, c_⟩ := X
  obtain rfl : l' = l := hX
  refine ri_aload_n h d_ST_polygon_0 rfl ?_
  refine ri_iload_n h d_ST_polygon_1 rfl ?_
  refine ri_cVv_1 (r := (gR5, gT5, 8)) h d_ST_polygon_2 cv_ST_74 (by first | exact hS.lcO | exact hS.lsO | exact hS.lpO | exact hS.cesO (by first | assumption | omega) | exact hS.cepO (by first | assumption | omega) | exact ⟨_, (by first | assumption | exact hS.st | exact hS.mo | exact hS.out | exact hS.sb | exact hS.ce (by first | assumption | omega) | exact hS.ceb (by first | assumption | omega) | exact hS.sh (by first | assumption | omega) | exact hS.shb (by first | assumption | omega) | exact hS.pl (by first | assumption | omega) | exact hS.plb (by first | assumption | omega) | exact hS.fl (by first | assumption | omega) | exact gup_s | (refine gup_t (by assumption) ?_; first | assumption | exact gup_s | (refine gup_t (by assumption) ?_; first | assumption | exact gup_s | (refine gup_t (by assumption) ?_; first | assumption | exact gup_s))))⟩) rfl (k_known_ok h0 hS hW hc) (Nat.le_of_ble_eq_true rfl) (Nat.le_of_ble_eq_true rfl) (Nat.le_of_ble_eq_true rfl) (Nat.le_of_ble_eq_true rfl) (Nat.le_of_ble_eq_true rfl) ?_
  refine ri_astore_n h d_ST_polygon_5 (Nat.le_of_ble_eq_true rfl) ?_
  refine ri_aload_n h d_ST_polygon_6 rfl ?_
  refine ri_iload_n h d_ST_polygon_7 rfl ?_
  refine ri_eV_1 (r := (gR5, gT5, 8)) h d_ST_polygon_8 cv_ST_78 (by first | exact hS.lcO | exact hS.lsO | exact hS.lpO | exact hS.cesO (by first | assumption | omega) | exact hS.cepO (by first | assumption | omega) | exact ⟨_, (by first | assumption | exact hS.st | exact hS.mo | exact hS.out | exact hS.sb | exact hS.ce (by first | assumption | omega) | exact hS.ceb (by first | assumption | omega) | exact hS.sh (by first | assumption | omega) | exact hS.shb (by first | assumption | omega) | exact hS.pl (by first | assumption | omega) | exact hS.plb (by first | assumption | omega) | exact hS.fl (by first | assumption | omega) | exact gup_s | (refine gup_t (by assumption) ?_; first | assumption | exact gup_s | (refine gup_t (by assumption) ?_; first | assumption | exact gup_s | (refine gup_t (by assumption) ?_; first | assumption | exact gup_s))))⟩) rfl (k_layer_no h0 hS hv) (Nat.le_of_ble_eq_true rfl) (Nat.le_of_ble_eq_true rfl) (Nat.le_of_ble_eq_true rfl) (Nat.le_of_ble_eq_true rfl) (Nat.le_of_ble_eq_true rfl) ?_
  exact ⟨rfl, rfl⟩
theorem k_polygon_no3 (h0 : g_0 l D s0) (hS : HS z ad Q N M) (hW : WB Q) (hc : c < Q.nC) {v : Int32} (hv : ¬ v < 0 ∧ v < Q.L) (hn : ¬ Q.nS < 120) : Ct l D s0 y_ST_polygon (Cond.code y_ST_polygon b_ST_polygon 4 (some .int)) rkC [.ref (ad 0 0), .int (nI c), .int v] M (fE eIS M) := by
  refine Ct.of h0 (by decide +kernel) rfl fun X hX h => ?_
  obtain ⟨p_, l', e_, R_, s_, m_, ar_, be_, me_, c_⟩ := X
  obtain rfl : l' = l := hX
  refine ri_aload_n h d_ST_polygon_0 rfl ?_
  refine ri_iload_n h d_ST_polygon_1 rfl ?_
  refine ri_cVv_1 (r := (gR5, gT5, 8)) h d_ST_polygon_2 cv_ST_74 (by first | exact hS.lcO | exact hS.lsO | exact hS.lpO | exact hS.cesO (by first | assumption | omega) | exact hS.cepO (by first | assumption | omega) | exact ⟨_, (by first | assumption | exact hS.st | exact hS.mo | exact hS.out | exact hS.sb | exact hS.ce (by first | assumption | omega) | exact hS.ceb (by first | assumption | omega) | exact hS.sh (by first | assumption | omega) | exact hS.shb (by first | assumption | omega) | exact hS.pl (by first | assumption | omega) | exact hS.plb (by first | assumption | omega) | exact hS.fl (by first | assumption | omega) | exact gup_s | (refine gup_t (by assumption) ?_; first | assumption | exact gup_s | (refine gup_t (by assumption) ?_; first | assumption | exact gup_s | (refine gup_t (by assumption) ?_; first | assumption | exact gup_s))))⟩) rfl (k_known_ok h0 hS hW hc) (Nat.le_of_ble_eq_true rfl) (Nat.le_of_ble_eq_true rfl) (Nat.le_of_ble_eq_true rfl) (Nat.le_of_ble_eq_true rfl) (Nat.le_of_ble_eq_true rfl) ?_
  refine ri_astore_n h d_ST_polygon_5 (Nat.le_of_ble_eq_true rfl) ?_
  refine ri_aload_n h d_ST_polygon_6 rfl ?_
  refine ri_iload_n h d_ST_polygon_7 rfl ?_
  refine ri_cV0_1 (r := (gR5, gT5, 8)) h d_ST_polygon_8 cv_ST_78 (by first | exact hS.lcO | exact hS.lsO | exact hS.lpO | exact hS.cesO (by first | assumption | omega) | exact hS.cepO (by first | assumption | omega) | exact ⟨_, (by first | assumption | exact hS.st | exact hS.mo | exact hS.out | exact hS.sb | exact hS.ce (by first | assumption | omega) | exact hS.ceb (by first | assumption | omega) | exact hS.sh (by first | assumption | omega) | exact hS.shb (by first | assumption | omega) | exact hS.pl (by first | assumption | omega) | exact hS.plb (by first | assumption | omega) | exact hS.fl (by first | assumption | omega) | exact gup_s | (refine gup_t (by assumption) ?_; first | assumption | exact gup_s | (refine gup_t (by assumption) ?_; first | assumption | exact gup_s | (refine gup_t (by assumption) ?_; first | assumption | exact gup_s))))⟩) rfl (k_layer_ok h0 hS hv) (Nat.le_of_ble_eq_true rfl) (Nat.le_of_ble_eq_true rfl) (Nat.le_of_ble_eq_true rfl) (Nat.le_of_ble_eq_true rfl) (Nat.le_of_ble_eq_true rfl) ?_
  refine ri_aload_n h d_ST_polygon_11 rfl ?_
  refine ri_eV_0 (r := (gR5, gT5, 8)) h d_ST_polygon_12 cv_ST_82 (by first | exact hS.lcO | exact hS.lsO | exact hS.lpO | exact hS.cesO (by first | assumption | omega) | exact hS.cepO (by first | assumption | omega) | exact ⟨_, (by first | assumption | exact hS.st | exact hS.mo | exact hS.out | exact hS.sb | exact hS.ce (by first | assumption | omega) | exact hS.ceb (by first | assumption | omega) | exact hS.sh (by first | assumption | omega) | exact hS.shb (by first | assumption | omega) | exact hS.pl (by first | assumption | omega) | exact hS.plb (by first | assumption | omega) | exact hS.fl (by first | assumption | omega) | exact gup_s | (refine gup_t (by assumption) ?_; first | assumption | exact gup_s | (refine gup_t (by assumption) ?_; first | assumption | exact gup_s | (refine gup_t (by assumption) ?_; first | assumption | exact gup_s))))⟩) rfl (k_left_no h0 hS hW hn) (Nat.le_of_ble_eq_true rfl) (Nat.le_of_ble_eq_true rfl) (Nat.le_of_ble_eq_true rfl) (Nat.le_of_ble_eq_true rfl) (Nat.le_of_ble_eq_true rfl) ?_
  exact ⟨rfl, rfl⟩
/-- a path's width -/
def wideB (w : Int64) : Prop := ¬ w < 2 ∧ ¬ 1000 < w ∧ w - w / 2 * 2 = 0
theorem k_path_no1 (h0 : g_0 l D s0) (hS : HS z ad Q N M) (hW : WB Q) {p : Int32} (hp : ¬ ∃ c, c < Q.nC ∧ p = nI c) {v : Int32} {w : Int64} {e : Int32} : Ct l D s0 y_ST_path (Cond.code y_ST_path b_ST_path 7 (some .int)) rkC [.ref (ad 0 0), .int p, .int v, .long w, .int e] M (fE eIO M) := by
  refine Ct.of h0 (by decide +kernel) rfl fun X hX h => ?_
  obtain ⟨p_, l', e_, R_, s_, m_, ar_, be_, me_, c_⟩ := X
  obtain rfl : l' = l := hX
  refine ri_aload_n h d_ST_path_0 rfl ?_
  refine ri_iload_n h d_ST_path_1 rfl ?_
  refine ri_eV_1 (r := (gR5, gT5, 8)) h d_ST_path_2 cv_ST_74 (by first | exact hS.lcO | exact hS.lsO | exact hS.lpO | exact hS.cesO (by first | assumption | omega) | exact hS.cepO (by first | assumption | omega) | exact ⟨_, (by first | assumption | exact hS.st | exact hS.mo | exact hS.out | exact hS.sb | exact hS.ce (by first | assumption | omega) | exact hS.ceb (by first | assumption | omega) | exact hS.sh (by first | assumption | omega) | exact hS.shb (by first | assumption | omega) | exact hS.pl (by first | assumption | omega) | exact hS.plb (by first | assumption | omega) | exact hS.fl (by first | assumption | omega) | exact gup_s | (refine gup_t (by assumption) ?_; first | assumption | exact gup_s | (refine gup_t (by assumption) ?_; first | assumption | exact gup_s | (refine gup_t (by assumption) ?_; first | assumption | exact gup_s))))⟩) rfl (k_known_no h0 hS hW hp) (Nat.le_of_ble_eq_true rfl) (Nat.le_of_ble_eq_true rfl) (Nat.le_of_ble_eq_true rfl) (Nat.le_of_ble_eq_true rfl) (Nat.le_of_ble_eq_true rfl) ?_
  exact ⟨rfl, rfl⟩
theorem k_path_no2 (h0 : g_0 l D s0) (hS : HS z ad Q N M) (hW : WB Q) (hc : c < Q.nC) {v : Int32} (hv : ¬ (¬ v < 0 ∧ v < Q.L)) {w : Int64} {e : Int32} : Ct l D s0 y_ST_path (Cond.code y_ST_path b_ST_path 7 (some .int)) rkC [.ref (ad 0 0), .int (nI c), .int v, .long w, .int e] M (fE eIO M) := by
  refine Ct.of h0 (by decide +kernel) rfl fun X hX h => ?_
  obtain ⟨p_, l', e_, R_, s_, m_, ar_, be_, me_, c_⟩ := X
  obtain rfl : l' = l := hX
  refine ri_aload_n h d_ST_path_0 rfl ?_
  refine ri_iload_n h d_ST_path_1 rfl ?_
  refine ri_cVv_1 (r := (gR5, gT5, 8)) h d_ST_path_2 cv_ST_74 (by first | exact hS.lcO | exact hS.lsO | exact hS.lpO | exact hS.cesO (by first | assumption | omega) | exact hS.cepO (by first | assumption | omega) | exact ⟨_, (by first | assumption | exact hS.st | exact hS.mo | exact hS.out | exact hS.sb | exact hS.ce (by first | assumption | omega) | exact hS.ceb (by first | assumption | omega) | exact hS.sh (by first | assumption | omega) | exact hS.shb (by first | assumption | omega) | exact hS.pl (by first | assumption | omega) | exact hS.plb (by first | assumption | omega) | exact hS.fl (by first | assumption | omega) | exact gup_s | (refine gup_t (by assumption) ?_; first | assumption | exact gup_s | (refine gup_t (by assumption) ?_; first | assumption | exact gup_s | (refine gup_t (by assumption) ?_; first | assumption | exact gup_s))))⟩) rfl (k_known_ok h0 hS hW hc) (Nat.le_of_ble_eq_true rfl) (Nat.le_of_ble_eq_true rfl) (Nat.le_of_ble_eq_true rfl) (Nat.le_of_ble_eq_true rfl) (Nat.le_of_ble_eq_true rfl) ?_
  refine ri_astore h d_ST_path_5 (Nat.le_of_ble_eq_true rfl) ?_
  refine ri_aload_n h d_ST_path_7 rfl ?_
  refine ri_iload_n h d_ST_path_8 rfl ?_
  refine ri_eV_1 (r := (gR5, gT5, 8)) h d_ST_path_9 cv_ST_78 (by first | exact hS.lcO | exact hS.lsO | exact hS.lpO | exact hS.cesO (by first | assumption | omega) | exact hS.cepO (by first | assumption | omega) | exact ⟨_, (by first | assumption | exact hS.st | exact hS.mo | exact hS.out | exact hS.sb | exact hS.ce (by first | assumption | omega) | exact hS.ceb (by first | assumption | omega) | exact hS.sh (by first | assumption | omega) | exact hS.shb (by first | assumption | omega) | exact hS.pl (by first | assumption | omega) | exact hS.plb (by first | assumption | omega) | exact hS.fl (by first | assumption | omega) | exact gup_s | (refine gup_t (by assumption) ?_; first | assumption | exact gup_s | (refine gup_t (by assumption) ?_; first | assumption | exact gup_s | (refine gup_t (by assumption) ?_; first | assumption | exact gup_s))))⟩) rfl (k_layer_no h0 hS hv) (Nat.le_of_ble_eq_true rfl) (Nat.le_of_ble_eq_true rfl) (Nat.le_of_ble_eq_true rfl) (Nat.le_of_ble_eq_true rfl) (Nat.le_of_ble_eq_true rfl) ?_
  exact ⟨rfl, rfl⟩
theorem k_path_no3 (h0 : g_0 l D s0) (hS : HS z ad Q N M) (hW : WB Q) (hc : c < Q.nC) {v : Int32} (hv : ¬ v < 0 ∧ v < Q.L) (hn : ¬ Q.nS < 120) {w : Int64} {e : Int32} : Ct l D s0 y_ST_path (Cond.code y_ST_path b_ST_path 7 (some .int)) rkC [.ref (ad 0 0), .int (nI c), .int v, .long w, .int e] M (fE eIS M) := by
  refine Ct.of h0 (by decide +kernel) rfl fun X hX h => ?_
  obtain ⟨p_, l', e_, R_, s_, m_, ar_, be_, me_, c_⟩ := X
  obtain rfl : l' = l := hX
  refine ri_aload_n h d_ST_path_0 rfl ?_
  refine ri_iload_n h d_ST_path_1 rfl ?_
  refine ri_cVv_1 (r := (gR5, gT5, 8)) h d_ST_path_2 cv_ST_74 (by first | exact hS.lcO | exact hS.lsO | exact hS.lpO | exact hS.cesO (by first | assumption | omega) | exact hS.cepO (by first | assumption | omega) | exact ⟨_, (by first | assumption | exact hS.st | exact hS.mo | exact hS.out | exact hS.sb | exact hS.ce (by first | assumption | omega) | exact hS.ceb (by first | assumption | omega) | exact hS.sh (by first | assumption | omega) | exact hS.shb (by first | assumption | omega) | exact hS.pl (by first | assumption | omega) | exact hS.plb (by first | assumption | omega) | exact hS.fl (by first | assumption | omega) | exact gup_s | (refine gup_t (by assumption) ?_; first | assumption | exact gup_s | (refine gup_t (by assumption) ?_; first | assumption | exact gup_s | (refine gup_t (by assumption) ?_; first | assumption | exact gup_s))))⟩) rfl (k_known_ok h0 hS hW hc) (Nat.le_of_ble_eq_true rfl) (Nat.le_of_ble_eq_true rfl) (Nat.le_of_ble_eq_true rfl) (Nat.le_of_ble_eq_true rfl) (Nat.le_of_ble_eq_true rfl) ?_
  refine ri_astore h d_ST_path_5 (Nat.le_of_ble_eq_true rfl) ?_
  refine ri_aload_n h d_ST_path_7 rfl ?_
  refine ri_iload_n h d_ST_path_8 rfl ?_
  refine ri_cV0_1 (r := (gR5, gT5, 8)) h d_ST_path_9 cv_ST_78 (by first | exact hS.lcO | exact hS.lsO | exact hS.lpO | exact hS.cesO (by first | assumption | omega) | exact hS.cepO (by first | assumption | omega) | exact ⟨_, (by first | assumption | exact hS.st | exact hS.mo | exact hS.out | exact hS.sb | exact hS.ce (by first | assumption | omega) | exact hS.ceb (by first | assumption | omega) | exact hS.sh (by first | assumption | omega) | exact hS.shb (by first | assumption | omega) | exact hS.pl (by first | assumption | omega) | exact hS.plb (by first | assumption | omega) | exact hS.fl (by first | assumption | omega) | exact gup_s | (refine gup_t (by assumption) ?_; first | assumption | exact gup_s | (refine gup_t (by assumption) ?_; first | assumption | exact gup_s | (refine gup_t (by assumption) ?_; first | assumption | exact gup_s))))⟩) rfl (k_layer_ok h0 hS hv) (Nat.le_of_ble_eq_true rfl) (Nat.le_of_ble_eq_true rfl) (Nat.le_of_ble_eq_true rfl) (Nat.le_of_ble_eq_true rfl) (Nat.le_of_ble_eq_true rfl) ?_
  refine ri_aload_n h d_ST_path_12 rfl ?_
  refine ri_eV_0 (r := (gR5, gT5, 8)) h d_ST_path_13 cv_ST_82 (by first | exact hS.lcO | exact hS.lsO | exact hS.lpO | exact hS.cesO (by first | assumption | omega) | exact hS.cepO (by first | assumption | omega) | exact ⟨_, (by first | assumption | exact hS.st | exact hS.mo | exact hS.out | exact hS.sb | exact hS.ce (by first | assumption | omega) | exact hS.ceb (by first | assumption | omega) | exact hS.sh (by first | assumption | omega) | exact hS.shb (by first | assumption | omega) | exact hS.pl (by first | assumption | omega) | exact hS.plb (by first | assumption | omega) | exact hS.fl (by first | assumption | omega) | exact gup_s | (refine gup_t (by assumption) ?_; first | assumption | exact gup_s | (refine gup_t (by assumption) ?_; first | assumption | exact gup_s | (refine gup_t (by assumption) ?_; first | assumption | exact gup_s))))⟩) rfl (k_left_no h0 hS hW hn) (Nat.le_of_ble_eq_true rfl) (Nat.le_of_ble_eq_true rfl) (Nat.le_of_ble_eq_true rfl) (Nat.le_of_ble_eq_true rfl) (Nat.le_of_ble_eq_true rfl) ?_
  exact ⟨rfl, rfl⟩
theorem k_path_no4 (h0 : g_0 l D s0) (hS : HS z ad Q N M) (hW : WB Q) (hc : c < Q.nC) {v : Int32} (hv : ¬ v < 0 ∧ v < Q.L) (hn : Q.nS < 120) {w : Int64} {e : Int32} (hw : ¬ (wideB w ∧ ¬ e < 0 ∧ e ≤ 1)) : Ct l D s0 y_ST_path (Cond.code y_ST_path b_ST_path 7 (some .int)) rkC [.ref (ad 0 0), .int (nI c), .int v, .long w, .int e] M (fE eIA M) := by
  refine Ct.of h0 (by decide +kernel) rfl fun X hX h => ?_
  obtain ⟨p_, l', e_, R_, s_, m_, ar_, be_, me_, c_⟩ := X
  obtain rfl : l' = l := hX
  refine ri_aload_n h d_ST_path_0 rfl ?_
  refine ri_iload_n h d_ST_path_1 rfl ?_
  refine ri_cVv_1 (r := (gR5, gT5, 8)) h d_ST_path_2 cv_ST_74 (by first | exact hS.lcO | exact hS.lsO | exact hS.lpO | exact hS.cesO (by first | assumption | omega) | exact hS.cepO (by first | assumption | omega) | exact ⟨_, (by first | assumption | exact hS.st | exact hS.mo | exact hS.out | exact hS.sb | exact hS.ce (by first | assumption | omega) | exact hS.ceb (by first | assumption | omega) | exact hS.sh (by first | assumption | omega) | exact hS.shb (by first | assumption | omega) | exact hS.pl (by first | assumption | omega) | exact hS.plb (by first | assumption | omega) | exact hS.fl (by first | assumption | omega) | exact gup_s | (refine gup_t (by assumption) ?_; first | assumption | exact gup_s | (refine gup_t (by assumption) ?_; first | assumption | exact gup_s | (refine gup_t (by assumption) ?_; first | assumption | exact gup_s))))⟩) rfl (k_known_ok h0 hS hW hc) (Nat.le_of_ble_eq_true rfl) (Nat.le_of_ble_eq_true rfl) (Nat.le_of_ble_eq_true rfl) (Nat.le_of_ble_eq_true rfl) (Nat.le_of_ble_eq_true rfl) ?_
  refine ri_astore h d_ST_path_5 (Nat.le_of_ble_eq_true rfl) ?_
  refine ri_aload_n h d_ST_path_7 rfl ?_
  refine ri_iload_n h d_ST_path_8 rfl ?_
  refine ri_cV0_1 (r := (gR5, gT5, 8)) h d_ST_path_9 cv_ST_78 (by first | exact hS.lcO | exact hS.lsO | exact hS.lpO | exact hS.cesO (by first | assumption | omega) | exact hS.cepO (by first | assumption | omega) | exact ⟨_, (by first | assumption | exact hS.st | exact hS.mo | exact hS.out | exact hS.sb | exact hS.ce (by first | assumption | omega) | exact hS.ceb (by first | assumption | omega) | exact hS.sh (by first | assumption | omega) | exact hS.shb (by first | assumption | omega) | exact hS.pl (by first | assumption | omega) | exact hS.plb (by first | assumption | omega) | exact hS.fl (by first | assumption | omega) | exact gup_s | (refine gup_t (by assumption) ?_; first | assumption | exact gup_s | (refine gup_t (by assumption) ?_; first | assumption | exact gup_s | (refine gup_t (by assumption) ?_; first | assumption | exact gup_s))))⟩) rfl (k_layer_ok h0 hS hv) (Nat.le_of_ble_eq_true rfl) (Nat.le_of_ble_eq_true rfl) (Nat.le_of_ble_eq_true rfl) (Nat.le_of_ble_eq_true rfl) (Nat.le_of_ble_eq_true rfl) ?_
  refine ri_aload_n h d_ST_path_12 rfl ?_
  refine ri_cV0_0 (r := (gR5, gT5, 8)) h d_ST_path_13 cv_ST_82 (by first | exact hS.lcO | exact hS.lsO | exact hS.lpO | exact hS.cesO (by first | assumption | omega) | exact hS.cepO (by first | assumption | omega) | exact ⟨_, (by first | assumption | exact hS.st | exact hS.mo | exact hS.out | exact hS.sb | exact hS.ce (by first | assumption | omega) | exact hS.ceb (by first | assumption | omega) | exact hS.sh (by first | assumption | omega) | exact hS.shb (by first | assumption | omega) | exact hS.pl (by first | assumption | omega) | exact hS.plb (by first | assumption | omega) | exact hS.fl (by first | assumption | omega) | exact gup_s | (refine gup_t (by assumption) ?_; first | assumption | exact gup_s | (refine gup_t (by assumption) ?_; first | assumption | exact gup_s | (refine gup_t (by assumption) ?_; first | assumption | exact gup_s))))⟩) rfl (k_left_ok h0 hS hn) (Nat.le_of_ble_eq_true rfl) (Nat.le_of_ble_eq_true rfl) (Nat.le_of_ble_eq_true rfl) (Nat.le_of_ble_eq_true rfl) (Nat.le_of_ble_eq_true rfl) ?_
  refine ri_lload_n h d_ST_path_16 rfl ?_
  refine ri_ldc2 h 2 d_ST_path_17 kl_ST_102 ?_
  refine ri_lcmp_lt h 42 d_ST_path_20 d_ST_path_21 (by decide) (fun c_20 => ?_) (fun c_20 => ?_)
  · refine ri_throw h tw_108 d_ST_path_42 d_ST_path_45 d_ST_path_46 d_ST_path_48 d_ST_path_51 (Nat.le_of_ble_eq_true rfl) (Nat.le_of_ble_eq_true rfl) (Nat.le_of_ble_eq_true rfl) (Nat.le_of_ble_eq_true rfl) ?_
    exact ⟨rfl, rfl⟩
  · refine ri_lload_n h d_ST_path_24 rfl ?_
    refine ri_ldc2 h 1000 d_ST_path_25 kl_ST_104 ?_
    refine ri_lcmp_gt h 42 d_ST_path_28 d_ST_path_29 (by decide) (fun c_28 => ?_) (fun c_28 => ?_)
    · refine ri_throw h tw_108 d_ST_path_42 d_ST_path_45 d_ST_path_46 d_ST_path_48 d_ST_path_51 (Nat.le_of_ble_eq_true rfl) (Nat.le_of_ble_eq_true rfl) (Nat.le_of_ble_eq_true rfl) (Nat.le_of_ble_eq_true rfl) ?_
      exact ⟨rfl, rfl⟩
    · refine ri_lload_n h d_ST_path_32 rfl ?_
      refine ri_ldc2 h 2 d_ST_path_33 kl_ST_102 ?_
      refine ri_lrem h d_ST_path_36 (by decide) ?_
      refine ri_lconst h 0 d_ST_path_37 rfl ?_
      refine ri_lcmp_eq h 52 d_ST_path_38 d_ST_path_39 (by decide) (fun c_38 => ?_) (fun c_38 => ?_)
      · refine ri_iload h d_ST_path_52 rfl ?_
        refine ri_if_lt h 63 d_ST_path_54 (by decide) (fun c_54 => ?_) (fun c_54 => ?_)
        · refine ri_throw h tw_111 d_ST_path_63 d_ST_path_66 d_ST_path_67 d_ST_path_69 d_ST_path_72 (Nat.le_of_ble_eq_true rfl) (Nat.le_of_ble_eq_true rfl) (Nat.le_of_ble_eq_true rfl) (Nat.le_of_ble_eq_true rfl) ?_
          exact ⟨rfl, rfl⟩
        · refine ri_iload h d_ST_path_57 rfl ?_
          refine ri_iconst h 1 d_ST_path_59 rfl ?_
          refine ri_icmp_le h 73 d_ST_path_60 (by decide) (fun c_60 => ?_) (fun c_60 => ?_)
          · exact absurd ⟨⟨c_20, c_28, c_38⟩, c_54, c_60⟩ hw
          · refine ri_throw h tw_111 d_ST_path_63 d_ST_path_66 d_ST_path_67 d_ST_path_69 d_ST_path_72 (Nat.le_of_ble_eq_true rfl) (Nat.le_of_ble_eq_true rfl) (Nat.le_of_ble_eq_true rfl) (Nat.le_of_ble_eq_true rfl) ?_
            exact ⟨rfl, rfl⟩
      · refine ri_throw h tw_108 d_ST_path_42 d_ST_path_45 d_ST_path_46 d_ST_path_48 d_ST_path_51 (Nat.le_of_ble_eq_true rfl) (Nat.le_of_ble_eq_true rfl) (Nat.le_of_ble_eq_true rfl) (Nat.le_of_ble_eq_true rfl) ?_
        exact ⟨rfl, rfl⟩
theorem k_path_ok (h0 : g_0 l D s0) (hz : gz s0 z) (hS : HS z ad Q N M) (hW : WB Q) (hT : WTQ Q) (hc : c < Q.nC) {v : Int32} (hv : ¬ v < 0 ∧ v < Q.L) (hn : Q.nS < 120) {w : Int64} {e : Int32} (hw : wideB w) (he : ¬ e < 0 ∧ e ≤ 1) : Ct l D s0 y_ST_path (Cond.code y_ST_path b_ST_path 7 (some .int)) rkC [.ref (ad 0 0), .int (nI c), .int v, .long w, .int e] M (fA z ad (some (.int (nI Q.nS))) (Q.addS c (r0S c v w e)) N) := by
  refine Ct.of h0 (by decide +kernel) rfl fun X hX h => ?_
  obtain ⟨p_, l', e_, R_, s_, m_, ar_, be_, me_, c_⟩ := X
  obtain rfl : l' = l := hX
  refine ri_aload_n h d_ST_path_0 rfl ?_
  refine ri_iload_n h d_ST_path_1 rfl ?_
  refine ri_cVv_1 (r := (gR5, gT5, 8)) h d_ST_path_2 cv_ST_74 (by first | exact hS.lcO | exact hS.lsO | exact hS.lpO | exact hS.cesO (by first | assumption | omega) | exact hS.cepO (by first | assumption | omega) | exact ⟨_, (by first | assumption | exact hS.st | exact hS.mo | exact hS.out | exact hS.sb | exact hS.ce (by first | assumption | omega) | exact hS.ceb (by first | assumption | omega) | exact hS.sh (by first | assumption | omega) | exact hS.shb (by first | assumption | omega) | exact hS.pl (by first | assumption | omega) | exact hS.plb (by first | assumption | omega) | exact hS.fl (by first | assumption | omega) | exact gup_s | (refine gup_t (by assumption) ?_; first | assumption | exact gup_s | (refine gup_t (by assumption) ?_; first | assumption | exact gup_s | (refine gup_t (by assumption) ?_; first | assumption | exact gup_s))))⟩) rfl (k_known_ok h0 hS hW hc) (Nat.le_of_ble_eq_true rfl) (Nat.le_of_ble_eq_true rfl) (Nat.le_of_ble_eq_true rfl) (Nat.le_of_ble_eq_true rfl) (Nat.le_of_ble_eq_true rfl) ?_
  refine ri_astore h d_ST_path_5 (Nat.le_of_ble_eq_true rfl) ?_
  refine ri_aload_n h d_ST_path_7 rfl ?_
  refine ri_iload_n h d_ST_path_8 rfl ?_
  refine ri_cV0_1 (r := (gR5, gT5, 8)) h d_ST_path_9 cv_ST_78 (by first | exact hS.lcO | exact hS.lsO | exact hS.lpO | exact hS.cesO (by first | assumption | omega) | exact hS.cepO (by first | assumption | omega) | exact ⟨_, (by first | assumption | exact hS.st | exact hS.mo | exact hS.out | exact hS.sb | exact hS.ce (by first | assumption | omega) | exact hS.ceb (by first | assumption | omega) | exact hS.sh (by first | assumption | omega) | exact hS.shb (by first | assumption | omega) | exact hS.pl (by first | assumption | omega) | exact hS.plb (by first | assumption | omega) | exact hS.fl (by first | assumption | omega) | exact gup_s | (refine gup_t (by assumption) ?_; first | assumption | exact gup_s | (refine gup_t (by assumption) ?_; first | assumption | exact gup_s | (refine gup_t (by assumption) ?_; first | assumption | exact gup_s))))⟩) rfl (k_layer_ok h0 hS hv) (Nat.le_of_ble_eq_true rfl) (Nat.le_of_ble_eq_true rfl) (Nat.le_of_ble_eq_true rfl) (Nat.le_of_ble_eq_true rfl) (Nat.le_of_ble_eq_true rfl) ?_
  refine ri_aload_n h d_ST_path_12 rfl ?_
  refine ri_cV0_0 (r := (gR5, gT5, 8)) h d_ST_path_13 cv_ST_82 (by first | exact hS.lcO | exact hS.lsO | exact hS.lpO | exact hS.cesO (by first | assumption | omega) | exact hS.cepO (by first | assumption | omega) | exact ⟨_, (by first | assumption | exact hS.st | exact hS.mo | exact hS.out | exact hS.sb | exact hS.ce (by first | assumption | omega) | exact hS.ceb (by first | assumption | omega) | exact hS.sh (by first | assumption | omega) | exact hS.shb (by first | assumption | omega) | exact hS.pl (by first | assumption | omega) | exact hS.plb (by first | assumption | omega) | exact hS.fl (by first | assumption | omega) | exact gup_s | (refine gup_t (by assumption) ?_; first | assumption | exact gup_s | (refine gup_t (by assumption) ?_; first | assumption | exact gup_s | (refine gup_t (by assumption) ?_; first | assumption | exact gup_s))))⟩) rfl (k_left_ok h0 hS hn) (Nat.le_of_ble_eq_true rfl) (Nat.le_of_ble_eq_true rfl) (Nat.le_of_ble_eq_true rfl) (Nat.le_of_ble_eq_true rfl) (Nat.le_of_ble_eq_true rfl) ?_
  refine ri_lload_n h d_ST_path_16 rfl ?_
  refine ri_ldc2 h 2 d_ST_path_17 kl_ST_102 ?_
  refine ri_lcmp_lt h 42 d_ST_path_20 d_ST_path_21 (by decide) (fun c_20 => ?_) (fun c_20 => ?_)
  · exact absurd c_20 hw.1
  · refine ri_lload_n h d_ST_path_24 rfl ?_
    refine ri_ldc2 h 1000 d_ST_path_25 kl_ST_104 ?_
    refine ri_lcmp_gt h 42 d_ST_path_28 d_ST_path_29 (by decide) (fun c_28 => ?_) (fun c_28 => ?_)
    · exact absurd c_28 hw.2.1
    · refine ri_lload_n h d_ST_path_32 rfl ?_
      refine ri_ldc2 h 2 d_ST_path_33 kl_ST_102 ?_
      refine ri_lrem h d_ST_path_36 (by decide) ?_
      refine ri_lconst h 0 d_ST_path_37 rfl ?_
      refine ri_lcmp_eq h 52 d_ST_path_38 d_ST_path_39 (by decide) (fun c_38 => ?_) (fun c_38 => ?_)
      · refine ri_iload h d_ST_path_52 rfl ?_
        refine ri_if_lt h 63 d_ST_path_54 (by decide) (fun c_54 => ?_) (fun c_54 => ?_)
        · exact absurd c_54 he.1
        · refine ri_iload h d_ST_path_57 rfl ?_
          refine ri_iconst h 1 d_ST_path_59 rfl ?_
          refine ri_icmp_le h 73 d_ST_path_60 (by decide) (fun c_60 => ?_) (fun c_60 => ?_)
          · refine ri_aload_n h d_ST_path_73 rfl ?_
            refine ri_aload h d_ST_path_74 rfl ?_
            refine ri_new h d_ST_path_76 nw_ST_85 (Nat.le_of_ble_eq_true rfl) (Nat.le_of_ble_eq_true rfl) (fun q_76 hq_76 => ?_)
            refine ri_dup h d_ST_path_79 rfl ?_
            refine ri_iload_n h d_ST_path_80 rfl ?_
            refine ri_lload_n h d_ST_path_81 rfl ?_
            refine ri_iload h d_ST_path_82 rfl ?_
            refine ri_callI h [.int v, .long w, .int e] [.ref q_76, .ref (ad 12 c), .ref (ad 0 0)] d_ST_path_84 ci_ST_87 rfl rfl (Nat.le_of_ble_eq_true rfl) (Nat.le_of_ble_eq_true rfl) (Nat.le_of_ble_eq_true rfl) (Nat.le_of_ble_eq_true rfl) (Nat.le_of_ble_eq_true rfl) (k_Sh_init h0 v w e gup_s) fV_x ?_
            rintro v9 M9 ⟨hv9, q1, q2, q3, q4, q5, hF, rfl⟩
            cases hv9
            obtain ⟨ad', e1, e2, hC⟩ := hS.newShape hT c hq_76 hF
            refine ri_gen (P := HSS z ad' Q N _) hC (fun M hC => ?_)
            have u0 := e2 0 0 ⟨by omega, by omega, by omega⟩
            have u1 := e2 12 c ⟨fun _ _ => hc, by omega, by omega⟩
            rw [← u0, ← u1, ← e1]
            have hS := hC.hs
            refine ri_dVv_2 (r := (gR5, gT5, 8)) h d_ST_path_87 cv_ST_90 (by first | exact hS.lcO | exact hS.lsO | exact hS.lpO | exact hS.cesO (by first | assumption | omega) | exact hS.cepO (by first | assumption | omega) | exact ⟨_, (by first | assumption | exact hS.st | exact hS.mo | exact hS.out | exact hS.sb | exact hS.ce (by first | assumption | omega) | exact hS.ceb (by first | assumption | omega) | exact hS.sh (by first | assumption | omega) | exact hS.shb (by first | assumption | omega) | exact hS.pl (by first | assumption | omega) | exact hS.plb (by first | assumption | omega) | exact hS.fl (by first | assumption | omega) | exact gup_s | (refine gup_t (by assumption) ?_; first | assumption | exact gup_s | (refine gup_t (by assumption) ?_; first | assumption | exact gup_s | (refine gup_t (by assumption) ?_; first | assumption | exact gup_s))))⟩) rfl (k_keep h0 hz hC hW hn hc) (Nat.le_of_ble_eq_true rfl) (Nat.le_of_ble_eq_true rfl) (Nat.le_of_ble_eq_true rfl) (Nat.le_of_ble_eq_true rfl) (Nat.le_of_ble_eq_true rfl) (fun M hS => ?_)
            refine ri_ireturn h d_ST_path_90 (Nat.le_of_ble_eq_true rfl) (Nat.le_of_ble_eq_true rfl) ?_
            exact ⟨rfl, ad', Ko.of e2, hS⟩
          · exact absurd he.2 c_60
      · exact absurd hw.2.2 c_38
end ME
