/-! equalTo of the class -/
theorem FG_sh {A B : CS} {r : FlR} {zs : List It} (h1 : B.sh = A.sh) (h2 : B.nS = A.nS) (h : FG A r zs) : FG B r zs := by
  obtain ⟨a1, a2, a3, a4, a5, a6, a7, a8, a9⟩ := A
  obtain ⟨b1, b2, b3, b4, b5, b6, b7, b8, b9⟩ := B
  obtain rfl : b6 = a6 := h1
  obtain rfl : b3 = a3 := h2
  exact h
theorem fs_cnt {sh : Nat → ShR} {F T : Nat → Nat → Int32} {s : Nat} : (fsS sh F T s).cnt = (sh s).cnt := rfl
theorem WPt_fs' {r : ShR} {a b : Nat → Int32} (h : WPt ((r.set_fi a).set_st b)) : WPt r := h
theorem itm_fs {A B : CS} {w : It} {q : ShR} {f t f' t' : Nat → Int32} (eA : A.sh w.1 = (q.set_fi f).set_st t) (eB : B.sh w.1 = (q.set_fi f').set_st t') {n : Nat} (nA : A.nS = n) (nB : B.nS = n) (h : itm A w) (hT : ¬ t w.2.1 = 0 → ¬ t' w.2.1 = 0) (hO : w.1 < n → w.2.1 < 8 → OrdOk ((q.set_fi f').set_st t') w.2.1) : itm B w := by
  unfold itm at h
  rw [eA, nA] at h
  obtain ⟨i1, i2, i3, i4, i5, i6, i7, i8, i9⟩ := h
  have i3 : q.cnt ≤ 24 := i3
  have i4 : 0 < q.cnt := i4
  have i5 : ¬ t w.2.1 = 0 := i5
  exact itm_of eB (nB.symm ▸ i1) i2 i3 i4 (hT i5) (hO i1 i2) i7 i8 (WPt_fs (WPt_fs' i9))
theorem kle_of {A B : CS} (h : key A = key B) : kle A = kle B := by
  funext w x y
  show decide (lcmp (key A (w x)) (key A (w y)) ≠ 1) = decide (lcmp (key B (w x)) (key B (w y)) ≠ 1)
  rw [h]
theorem FG_of {A B : CS} {r : FlR} {zs : List It} {n : Nat} {a b : Nat → ShR} (eA : A.sh = a) (eB : B.sh = b) (nA : A.nS = n) (nB : B.nS = n) (hk : key B = key A) (hc : ∀ s, (b s).cnt = (a s).cnt) (hi : ∀ w, itm A w → itm B w) (h : FG A r zs) : FG B r zs := by
  obtain ⟨h1, ⟨h2, h3⟩, h4, h5, h6, h7⟩ := h
  rw [nA] at h7
  rw [nA, eA] at h2
  refine ⟨h1, ⟨?_, fun i hi' => ⟨(h3 i hi').1, hi _ (h3 i hi').2⟩⟩, h4, ?_, by rw [hk]; exact h6, by rw [nB]; exact h7⟩
  · rw [nB, eB]
    exact WFl_of hc h2
  · rw [kle_of hk]
    exact h5
theorem eS_1 {Q : CS} {F T : Nat → Nat → Int32} {g : Nat → FlR} : (eS Q F T g).sh = fsS Q.sh F T := rfl
theorem eS_2 {Q : CS} {F T : Nat → Nat → Int32} {g : Nat → FlR} : (eS Q F T g).nS = Q.nS := rfl
theorem eS_3 {Q : CS} {F T : Nat → Nat → Int32} {g : Nat → FlR} {s : Nat} : (eS Q F T g).sh s = ((Q.sh s).set_fi (F s)).set_st (T s) := rfl
theorem FG_mono {Q : CS} {F T F' T' : Nat → Nat → Int32} {g g' : Nat → FlR} {r : FlR} {zs : List It} (hO : ∀ s, s < Q.nS → ∀ t, t < 8 → OrdOk (fsS Q.sh F' T' s) t) (hT : ∀ s t, ¬ T s t = 0 → ¬ T' s t = 0) (h : FG (eS Q F T g) r zs) : FG (eS Q F' T' g') r zs :=
  FG_of eS_1 eS_1 eS_2 eS_2 (key_eF.trans key_eF.symm) (fun _ => fs_cnt.trans fs_cnt.symm) (fun w q => itm_fs eS_3 eS_3 eS_2 eS_2 q (hT _ _) (fun a b => hO _ a _ b)) h
theorem WF_eS {Q : CS} {F T : Nat → Nat → Int32} {g : Nat → FlR} (h : WF Q) (hO : ∀ s, s < Q.nS → ∀ t, t < 8 → OrdOk (fsS Q.sh F T s) t) (hg0 : g 0 = Q.fl 0) (hgs : ∀ j, j < 3 → ∀ i s, (g j).sh i = some s → s < Q.nS) : WF (eS Q F T g) := by
  refine ⟨h.wb, ⟨h.wt.1, hgs, h.wt.2.2⟩, WL_eS h.wl, WX_eS h.wx, WSC_eS h.wc, fun s hs => WPt_fs (h.wp s hs), h.dr, h.se, h.me, ?_, h.en, hO⟩
  show WFl Q.nS (fsS Q.sh F T) (g 0)
  rw [hg0]
  exact WFl_of (fun _ => rfl) h.fl
theorem eS_fl {Q : CS} {F T : Nat → Nat → Int32} {g g' : Nat → FlR} {m : Nat → Int32} {sz : Nat → Nat} {b pb : Nat → BxR} : (msQ (eS Q F T g) m sz b pb).set_fl g' = msQ (eS Q F T g') m sz b pb := rfl
theorem key_ms {Q : CS} {F T : Nat → Nat → Int32} {g : Nat → FlR} {m : Nat → Int32} {sz : Nat → Nat} {b pb : Nat → BxR} : key (msQ (eS Q F T g) m sz b pb) = key Q := funext fun _ => key_of rfl
/-- what equalTo answers -/
def eqA (Q : CS) (b : Nat → BxR) (c : Nat) (v : Int32) : Prop := (∃ i, i < c ∧ v = nI i ∧ (keys Q b c).Perm (keys Q b i) ∧ ∀ x, x < i → ¬ (keys Q b c).Perm (keys Q b x)) ∨ (v = -1 ∧ ∀ x, x < c → ¬ (keys Q b c).Perm (keys Q b x))
section EQL
variable {l : Launch} {D : gD} {s0 : State} {M : gH} {z : Nat} {ad : gA} {Q S : CS} {N : MS} {F T : Nat → Nat → Int32} {g : Nat → FlR} {m : Nat → Int32} {sz : Nat → Nat} {b pb : Nat → BxR} {c d : Nat}
variable {p_ : Program} {e_ : Env} {R_ : Room} {s_ : State} {m_ : MethodId} {ar_ : Array Value} {be_ : List Frame} {me_ : Method} {c_ : Code} {Fp : gR → gH → Prop}
abbrev sSz (r r' : CeR) : Prop := r.size = r'.size ∧ (r.size = 0 ∨ (r.bx.x1 - r.bx.x0 = r'.bx.x1 - r'.bx.x0 ∧ r.bx.y1 - r.bx.y0 = r'.bx.y1 - r'.bx.y0))
theorem k_sameSize (h0 : g_0 l D s0) (hS : HS z ad S N M) (hc : c < S.nC) (hd : d < S.nC) {r r' : CeR} (h_ce : S.ce c = r) (h_cd : S.ce d = r') (hs : r.size ≤ 5000) (hs' : r'.size ≤ 5000) {bb : Int32} (hbb : (bb = 1 ∧ sSz r r') ∨ (bb = 0 ∧ ¬ sSz r r')) : Ct l D s0 y_ST_sameSize (Cond.code y_ST_sameSize b_ST_sameSize 2 (some .boolean)) (rk 1 0 0) [.ref (ad 12 c), .ref (ad 12 d)] M (fR (some (.int bb)) M) := by
  have hA := hS.ce_of hc h_ce
  have hA' := hS.ceb_of hc h_ce
  have hB := hS.ce_of hd h_cd
  have hB' := hS.ceb_of hd h_cd
  have hyes : sSz r r' → bb = 1 := fun q => by
    rcases hbb with ⟨e, -⟩ | ⟨-, q'⟩
    · exact e
    · exact absurd q q'
  have hno : ¬ sSz r r' → bb = 0 := fun q => by
    rcases hbb with ⟨-, q'⟩ | ⟨e, -⟩
    · exact absurd q' q
    · exact e
  refine Ct.of h0 (by decide +kernel) rfl fun X hX h => ?_
  obtain ⟨p_, l', e_, R_, s_, m_, ar_, be_, me_, c_⟩ := X
  obtain rfl : l' = l := hX
  refine ri_aload_n h d_ST_sameSize_0 rfl ?_
  refine ri_get h d_ST_sameSize_1 fl_ST_163 (by first | assumption | exact hS.ce_of (by first | assumption | omega) (by assumption) | exact hS.ce (by first | assumption | omega) | exact gup_s) (by rfl) ?_
  refine ri_aload_n h d_ST_sameSize_4 rfl ?_
  refine ri_get h d_ST_sameSize_5 fl_ST_163 (by first | assumption | exact hS.ce_of (by first | assumption | omega) (by assumption) | exact hS.ce (by first | assumption | omega) | exact gup_s) (by rfl) ?_
  first | refine ri_icmpN_eq h 13 d_ST_sameSize_8 (by decide) (by omega) (by omega) (fun c_8 => ?_) (fun c_8 => ?_) | refine ri_icmp_eq h 13 d_ST_sameSize_8 (by decide) (fun c_8 => ?_) (fun c_8 => ?_)
  · refine ri_aload_n h d_ST_sameSize_13 rfl ?_
    refine ri_get h d_ST_sameSize_14 fl_ST_163 (by first | assumption | exact hS.ce_of (by first | assumption | omega) (by assumption) | exact hS.ce (by first | assumption | omega) | exact gup_s) (by rfl) ?_
    first | refine ri_ifB_eq h 56 d_ST_sameSize_17 (by decide) (fun c_17 => ?_) (fun c_17 => ?_) | refine ri_ifN_eq h 56 d_ST_sameSize_17 (by decide) (by omega) (fun c_17 => ?_) (fun c_17 => ?_) | refine ri_if_eq h 56 d_ST_sameSize_17 (by decide) (fun c_17 => ?_) (fun c_17 => ?_)
    · have eb := hyes ⟨c_8, Or.inl c_17⟩
      refine ri_iconstN h 1 d_ST_sameSize_56 rfl ?_
      refine ri_goto h 61 d_ST_sameSize_57 (by decide) ?_
      refine ri_zreturn h d_ST_sameSize_61 (Nat.le_of_ble_eq_true rfl) (Nat.le_of_ble_eq_true rfl) (by first | rfl | assumption) ?_
      exact ⟨by rw [eb]; rfl, rfl⟩
    · refine ri_aload_n h d_ST_sameSize_20 rfl ?_
      refine ri_get h d_ST_sameSize_21 fl_ST_167 (by first | assumption | exact hS.ce_of (by first | assumption | omega) (by assumption) | exact hS.ce (by first | assumption | omega) | exact gup_s) (by rfl) ?_
      refine ri_cVv_0 (r := (gR0, gT0, 5)) h d_ST_sameSize_24 cv_ST_305 (by first | exact hS.lcO | exact hS.lsO | exact hS.lpO | exact hS.cesO (by first | assumption | omega) | exact hS.cepO (by first | assumption | omega) | exact ⟨_, (by first | assumption | exact hS.st | exact hS.mo | exact hS.out | exact hS.sb | exact hS.ce (by first | assumption | omega) | exact hS.ceb (by first | assumption | omega) | exact hS.sh (by first | assumption | omega) | exact hS.shb (by first | assumption | omega) | exact hS.pl (by first | assumption | omega) | exact hS.plb (by first | assumption | omega) | exact hS.fl (by first | assumption | omega) | exact gup_s | (refine gup_t (by assumption) ?_; first | assumption | exact gup_s | (refine gup_t (by assumption) ?_; first | assumption | exact gup_s | (refine gup_t (by assumption) ?_; first | assumption | exact gup_s))))⟩) rfl (k_Bx_width h0 hA') (Nat.le_of_ble_eq_true rfl) (Nat.le_of_ble_eq_true rfl) (Nat.le_of_ble_eq_true rfl) (Nat.le_of_ble_eq_true rfl) (Nat.le_of_ble_eq_true rfl) ?_
      refine ri_aload_n h d_ST_sameSize_27 rfl ?_
      refine ri_get h d_ST_sameSize_28 fl_ST_167 (by first | assumption | exact hS.ce_of (by first | assumption | omega) (by assumption) | exact hS.ce (by first | assumption | omega) | exact gup_s) (by rfl) ?_
      refine ri_cVv_0 (r := (gR0, gT0, 5)) h d_ST_sameSize_31 cv_ST_305 (by first | exact hS.lcO | exact hS.lsO | exact hS.lpO | exact hS.cesO (by first | assumption | omega) | exact hS.cepO (by first | assumption | omega) | exact ⟨_, (by first | assumption | exact hS.st | exact hS.mo | exact hS.out | exact hS.sb | exact hS.ce (by first | assumption | omega) | exact hS.ceb (by first | assumption | omega) | exact hS.sh (by first | assumption | omega) | exact hS.shb (by first | assumption | omega) | exact hS.pl (by first | assumption | omega) | exact hS.plb (by first | assumption | omega) | exact hS.fl (by first | assumption | omega) | exact gup_s | (refine gup_t (by assumption) ?_; first | assumption | exact gup_s | (refine gup_t (by assumption) ?_; first | assumption | exact gup_s | (refine gup_t (by assumption) ?_; first | assumption | exact gup_s))))⟩) rfl (k_Bx_width h0 hB') (Nat.le_of_ble_eq_true rfl) (Nat.le_of_ble_eq_true rfl) (Nat.le_of_ble_eq_true rfl) (Nat.le_of_ble_eq_true rfl) (Nat.le_of_ble_eq_true rfl) ?_
      refine ri_lcmp_ne h 60 d_ST_sameSize_34 d_ST_sameSize_35 (by decide) (fun c_34 => ?_) (fun c_34 => ?_)
      · have eb := hno (fun q => q.2.elim c_17 (fun q => c_34 q.1))
        refine ri_iconstN h 0 d_ST_sameSize_60 rfl ?_
        refine ri_zreturn h d_ST_sameSize_61 (Nat.le_of_ble_eq_true rfl) (Nat.le_of_ble_eq_true rfl) (by first | rfl | assumption) ?_
        exact ⟨by rw [eb]; rfl, rfl⟩
      · refine ri_aload_n h d_ST_sameSize_38 rfl ?_
        refine ri_get h d_ST_sameSize_39 fl_ST_167 (by first | assumption | exact hS.ce_of (by first | assumption | omega) (by assumption) | exact hS.ce (by first | assumption | omega) | exact gup_s) (by rfl) ?_
        refine ri_cVv_0 (r := (gR0, gT0, 5)) h d_ST_sameSize_42 cv_ST_309 (by first | exact hS.lcO | exact hS.lsO | exact hS.lpO | exact hS.cesO (by first | assumption | omega) | exact hS.cepO (by first | assumption | omega) | exact ⟨_, (by first | assumption | exact hS.st | exact hS.mo | exact hS.out | exact hS.sb | exact hS.ce (by first | assumption | omega) | exact hS.ceb (by first | assumption | omega) | exact hS.sh (by first | assumption | omega) | exact hS.shb (by first | assumption | omega) | exact hS.pl (by first | assumption | omega) | exact hS.plb (by first | assumption | omega) | exact hS.fl (by first | assumption | omega) | exact gup_s | (refine gup_t (by assumption) ?_; first | assumption | exact gup_s | (refine gup_t (by assumption) ?_; first | assumption | exact gup_s | (refine gup_t (by assumption) ?_; first | assumption | exact gup_s))))⟩) rfl (k_Bx_height h0 hA') (Nat.le_of_ble_eq_true rfl) (Nat.le_of_ble_eq_true rfl) (Nat.le_of_ble_eq_true rfl) (Nat.le_of_ble_eq_true rfl) (Nat.le_of_ble_eq_true rfl) ?_
        refine ri_aload_n h d_ST_sameSize_45 rfl ?_
        refine ri_get h d_ST_sameSize_46 fl_ST_167 (by first | assumption | exact hS.ce_of (by first | assumption | omega) (by assumption) | exact hS.ce (by first | assumption | omega) | exact gup_s) (by rfl) ?_
        refine ri_cVv_0 (r := (gR0, gT0, 5)) h d_ST_sameSize_49 cv_ST_309 (by first | exact hS.lcO | exact hS.lsO | exact hS.lpO | exact hS.cesO (by first | assumption | omega) | exact hS.cepO (by first | assumption | omega) | exact ⟨_, (by first | assumption | exact hS.st | exact hS.mo | exact hS.out | exact hS.sb | exact hS.ce (by first | assumption | omega) | exact hS.ceb (by first | assumption | omega) | exact hS.sh (by first | assumption | omega) | exact hS.shb (by first | assumption | omega) | exact hS.pl (by first | assumption | omega) | exact hS.plb (by first | assumption | omega) | exact hS.fl (by first | assumption | omega) | exact gup_s | (refine gup_t (by assumption) ?_; first | assumption | exact gup_s | (refine gup_t (by assumption) ?_; first | assumption | exact gup_s | (refine gup_t (by assumption) ?_; first | assumption | exact gup_s))))⟩) rfl (k_Bx_height h0 hB') (Nat.le_of_ble_eq_true rfl) (Nat.le_of_ble_eq_true rfl) (Nat.le_of_ble_eq_true rfl) (Nat.le_of_ble_eq_true rfl) (Nat.le_of_ble_eq_true rfl) ?_
        refine ri_lcmp_ne h 60 d_ST_sameSize_52 d_ST_sameSize_53 (by decide) (fun c_52 => ?_) (fun c_52 => ?_)
        · have eb := hno (fun q => q.2.elim c_17 (fun q => c_52 q.2))
          refine ri_iconstN h 0 d_ST_sameSize_60 rfl ?_
          refine ri_zreturn h d_ST_sameSize_61 (Nat.le_of_ble_eq_true rfl) (Nat.le_of_ble_eq_true rfl) (by first | rfl | assumption) ?_
          exact ⟨by rw [eb]; rfl, rfl⟩
        · have eb := hyes ⟨c_8, Or.inr ⟨c_34, c_52⟩⟩
          refine ri_iconstN h 1 d_ST_sameSize_56 rfl ?_
          refine ri_goto h 61 d_ST_sameSize_57 (by decide) ?_
          refine ri_zreturn h d_ST_sameSize_61 (Nat.le_of_ble_eq_true rfl) (Nat.le_of_ble_eq_true rfl) (by first | rfl | assumption) ?_
          exact ⟨by rw [eb]; rfl, rfl⟩
  · have eb := hno (fun q => c_8 q.1)
    refine ri_iconstN h 0 d_ST_sameSize_11 rfl ?_
    refine ri_zreturn h d_ST_sameSize_12 (Nat.le_of_ble_eq_true rfl) (Nat.le_of_ble_eq_true rfl) (by first | rfl | assumption) ?_
    exact ⟨by rw [eb]; rfl, rfl⟩
theorem k_equalTo_no1 (h0 : g_0 l D s0) (hS : HS z ad Q N M) (hW : WB Q) {p : Int32} (hp : ¬ ∃ c, c < Q.nC ∧ p = nI c) : Ct l D s0 y_ST_equalTo (Cond.code y_ST_equalTo b_ST_equalTo 6 (some .int)) rkC [.ref (ad 0 0), .int p] M (fE eIO M) := by
  refine Ct.of h0 (by decide +kernel) rfl fun X hX h => ?_
  obtain ⟨p_, l', e_, R_, s_, m_, ar_, be_, me_, c_⟩ := X
  obtain rfl : l' = l := hX
  refine ri_aload_n h d_ST_equalTo_0 rfl ?_
  refine ri_iload_n h d_ST_equalTo_1 rfl ?_
  refine ri_eV_1 (r := (gR5, gT5, 8)) h d_ST_equalTo_2 cv_ST_74 (by first | exact hS.lcO | exact hS.lsO | exact hS.lpO | exact hS.cesO (by first | assumption | omega) | exact hS.cepO (by first | assumption | omega) | exact ⟨_, (by first | assumption | exact hS.st | exact hS.mo | exact hS.out | exact hS.sb | exact hS.ce (by first | assumption | omega) | exact hS.ceb (by first | assumption | omega) | exact hS.sh (by first | assumption | omega) | exact hS.shb (by first | assumption | omega) | exact hS.pl (by first | assumption | omega) | exact hS.plb (by first | assumption | omega) | exact hS.fl (by first | assumption | omega) | exact gup_s | (refine gup_t (by assumption) ?_; first | assumption | exact gup_s | (refine gup_t (by assumption) ?_; first | assumption | exact gup_s | (refine gup_t (by assumption) ?_; first | assumption | exact gup_s))))⟩) rfl (k_known_no h0 hS hW hp) (Nat.le_of_ble_eq_true rfl) (Nat.le_of_ble_eq_true rfl) (Nat.le_of_ble_eq_true rfl) (Nat.le_of_ble_eq_true rfl) (Nat.le_of_ble_eq_true rfl) ?_
  exact ⟨rfl, rfl⟩
/-- the cells are small enough -/
theorem eq_l1 (h0 : g_0 l D s0) (h : gF (gzz D s0 (p_, l, e_, R_, s_, m_, ar_, be_, me_, c_) rkC Fp 6) b_ST_equalTo y_ST_equalTo.cls (some .int) [] y_ST_equalTo.name) (hW : WB Q) (hS : HS z ad (msQ Q m sz b pb) N M) (hdn : ∀ x, x < Q.nC → dnC Q (-1) sz b x) (hc : c < Q.nC) (kno : (∃ x, x ≤ c ∧ ¬ SZ Q (-1) x ≤ 3000) → Fp (.inr eUO) M) (k : (∀ x, x ≤ c → SZ Q (-1) x ≤ 3000) → ∀ cl sl, cl ≤ 30 → sl ≤ 300 → G (gzz D s0 (p_, l, e_, R_, s_, m_, ar_, be_, me_, c_) rkC Fp 6) 38 [(0, .ref (ad 0 0)), (1, .int (nI c)), (2, .ref (ad 12 c))] [] M cl sl) : ∀ (q i : Nat), i + q = c + 1 → ∀ cl sl, cl ≤ 2 + i → sl ≤ 12 + 6 * i → (∀ x, x < i → SZ Q (-1) x ≤ 3000) → G (gzz D s0 (p_, l, e_, R_, s_, m_, ar_, be_, me_, c_) rkC Fp 6) 13 [(0, .ref (ad 0 0)), (1, .int (nI c)), (2, .ref (ad 12 c)), (3, .int (nI i))] [] M cl sl := by
  have hb := hW.1
  intro q
  induction q with
  | zero =>
    intro i hi cl sl hcl hsl hlt
    refine ri_iload_n h d_ST_equalTo_13 rfl ?_
    refine ri_iload_n h d_ST_equalTo_14 rfl ?_
    first | refine ri_icmpN_gt h 38 d_ST_equalTo_15 (by decide) (by omega) (by omega) (fun c_15 => ?_) (fun c_15 => ?_) | refine ri_icmp_gt h 38 d_ST_equalTo_15 (by decide) (fun c_15 => ?_) (fun c_15 => ?_)
    · exact ri_ls [(0, .ref (ad 0 0)), (1, .int (nI c)), (2, .ref (ad 12 c))] ⟨rfl, rfl, rfl, trivial⟩ (k (fun x hx => hlt x (by omega)) cl sl (by omega) (by omega))
    · omega
  | succ q ih =>
    intro i hi cl sl hcl hsl hlt
    have hiC : i < Q.nC := by omega
    have d1 := (hdn i hiC).1
    refine ri_iload_n h d_ST_equalTo_13 rfl ?_
    refine ri_iload_n h d_ST_equalTo_14 rfl ?_
    first | refine ri_icmpN_gt h 38 d_ST_equalTo_15 (by decide) (by omega) (by omega) (fun c_15 => ?_) (fun c_15 => ?_) | refine ri_icmp_gt h 38 d_ST_equalTo_15 (by decide) (fun c_15 => ?_) (fun c_15 => ?_)
    · omega
    refine ri_aload_n h d_ST_equalTo_18 rfl ?_
    refine ri_get h d_ST_equalTo_19 fl_ST_10 (by first | assumption | exact hS.st | exact gup_s) (by rfl) ?_
    refine ri_iload_n h d_ST_equalTo_22 rfl ?_
    refine ri_cVv_1 (r := (gR7, gT7, 3)) h d_ST_equalTo_23 cv_ST_138 (by first | exact hS.lcO | exact hS.lsO | exact hS.lpO | exact hS.cesO (by first | assumption | omega) | exact hS.cepO (by first | assumption | omega) | exact ⟨_, (by first | assumption | exact hS.st | exact hS.mo | exact hS.out | exact hS.sb | exact hS.ce (by first | assumption | omega) | exact hS.ceb (by first | assumption | omega) | exact hS.sh (by first | assumption | omega) | exact hS.shb (by first | assumption | omega) | exact hS.pl (by first | assumption | omega) | exact hS.plb (by first | assumption | omega) | exact hS.fl (by first | assumption | omega) | exact gup_s | (refine gup_t (by assumption) ?_; first | assumption | exact gup_s | (refine gup_t (by assumption) ?_; first | assumption | exact gup_s | (refine gup_t (by assumption) ?_; first | assumption | exact gup_s))))⟩) rfl (by first | exact k_get_lc h0 hS hW (by first | assumption | omega) | exact k_get_ls h0 hS hW (by first | assumption | omega) | exact k_get_lp h0 hS hW (by first | assumption | omega) | exact k_get_ces h0 hS hW (by first | assumption | omega) (by first | assumption | omega) | exact k_get_cep h0 hS hW (by first | assumption | omega) (by first | assumption | omega)) (by first | (dsimp only [rk]; omega) | omega | exact Nat.le_of_ble_eq_true rfl) (by first | (dsimp only [rk]; omega) | omega | exact Nat.le_of_ble_eq_true rfl) (by first | (dsimp only [rk]; omega) | omega | exact Nat.le_of_ble_eq_true rfl) (by first | (dsimp only [rk]; omega) | omega | exact Nat.le_of_ble_eq_true rfl) (by first | (dsimp only [rk]; omega) | omega | exact Nat.le_of_ble_eq_true rfl) ?_
    refine ri_cast (r := (gR1, gT1, 6)) h d_ST_equalTo_26 (by first | assumption | exact hS.st | exact hS.mo | exact hS.out | exact hS.sb | exact hS.ce (by first | assumption | omega) | exact hS.ceb (by first | assumption | omega) | exact hS.sh (by first | assumption | omega) | exact hS.shb (by first | assumption | omega) | exact hS.pl (by first | assumption | omega) | exact hS.plb (by first | assumption | omega) | exact hS.fl (by first | assumption | omega) | exact gup_s | (refine gup_t (by assumption) ?_; first | assumption | exact gup_s | (refine gup_t (by assumption) ?_; first | assumption | exact gup_s | (refine gup_t (by assumption) ?_; first | assumption | exact gup_s)))) rfl (by decide +kernel) (by decide +kernel) ?_
    by_cases hn : SZ Q (-1) i ≤ 3000
    · refine ri_cS0_1 h d_ST_equalTo_29 cs_ST_174 (k_few_ok h0 hS hiC (show sz i ≤ 3000 by omega)) (by first | (dsimp only [rk]; omega) | omega | exact Nat.le_of_ble_eq_true rfl) (by first | (dsimp only [rk]; omega) | omega | exact Nat.le_of_ble_eq_true rfl) (by first | (dsimp only [rk]; omega) | omega | exact Nat.le_of_ble_eq_true rfl) (by first | (dsimp only [rk]; omega) | omega | exact Nat.le_of_ble_eq_true rfl) (by first | (dsimp only [rk]; omega) | omega | exact Nat.le_of_ble_eq_true rfl) ?_
      first | refine ri_iincN h d_ST_equalTo_32 rfl (by first | (dsimp only [rk]; omega) | omega | exact Nat.le_of_ble_eq_true rfl) ?_ | refine ri_iinc h _ d_ST_equalTo_32 rfl rfl (by first | (dsimp only [rk]; omega) | omega | exact Nat.le_of_ble_eq_true rfl) ?_
      refine ri_goto h 13 d_ST_equalTo_35 (by decide) ?_
      refine ri_ls [(0, .ref (ad 0 0)), (1, .int (nI c)), (2, .ref (ad 12 c)), (3, .int (nI (i + 1)))] ⟨rfl, rfl, rfl, rfl, trivial⟩ (ih (i + 1) (by omega) _ _ (by dsimp only [rk]; omega) (by dsimp only [rk]; omega) (fun x hx => ?_))
      by_cases e : x = i
      · subst e; exact hn
      · exact hlt x (by omega)
    · refine ri_eS_1 h d_ST_equalTo_29 cs_ST_174 (k_few_no h0 hS hiC (show ¬ sz i ≤ 3000 by omega) (show sz i ≤ 5000 by omega)) (by first | (dsimp only [rk]; omega) | omega | exact Nat.le_of_ble_eq_true rfl) (by first | (dsimp only [rk]; omega) | omega | exact Nat.le_of_ble_eq_true rfl) (by first | (dsimp only [rk]; omega) | omega | exact Nat.le_of_ble_eq_true rfl) (by first | (dsimp only [rk]; omega) | omega | exact Nat.le_of_ble_eq_true rfl) (by first | (dsimp only [rk]; omega) | omega | exact Nat.le_of_ble_eq_true rfl) ?_
      exact kno ⟨i, by omega, hn⟩
end EQL
