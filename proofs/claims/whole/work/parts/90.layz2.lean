/-! layFromZero: its loop -/
section LAY
variable {l : Launch} {D : gD} {s0 : State} {M : gH} {z : Nat} {ad : gA} {Q : CS} {N : MS} {F T : Nat → Nat → Int32} {g : Nat → FlR} {m : Nat → Int32} {sz : Nat → Nat} {b pb : Nat → BxR} {c : Nat}
variable {p_ : Program} {e_ : Env} {R_ : Room} {s_ : State} {m_ : MethodId} {ar_ : Array Value} {be_ : List Frame} {me_ : Method} {c_ : Code} {Fp : gR → gH → Prop}
abbrev rXY (r : FlR) (i : Nat) (x y : Int64) : FlR := ((r.set_xs (va_up r.xs i x)).set_ys (va_up r.ys i y)).set_ord (va_up r.ord i i)
theorem WFl_up {n : Nat} {sh : Nat → ShR} {r : FlR} {s i : Nat} {rs : ShR} {a b' : Nat → Int32} {x y : Int64} (hwf : WFl n sh r) (h : sh s = rs) : WFl n (va_up sh s ((rs.set_fi a).set_st b')) (rXY r i x y) := by
  have h1 : WFl n sh (rXY r i x y) := ⟨hwf.1, hwf.2⟩
  refine WFl_of (sh := sh) (fun d => ?_) h1
  unfold va_up
  split
  · subst_vars; rfl
  · rfl
theorem cIt_rXY {r : FlR} {s i : Nat} {x y : Int64} (e : r.sh i = some s) : cIt (rXY r i x y) i (s, r.tu i, x, y) := ⟨e, rfl, va_up_s, va_up_s⟩
theorem key_up {S : CS} {A : Nat → FlR} {s t : Nat} {rs : ShR} {a b' : Nat → Int32} {x y : Int64} : key ((S.set_fl A).set_sh (va_up S.sh s ((rs.set_fi a).set_st b'))) (s, t, x, y) = keyR rs t x.toInt y.toInt := by
  have e : ((S.set_fl A).set_sh (va_up S.sh s ((rs.set_fi a).set_st b'))).sh s = (rs.set_fi a).set_st b' := va_up_s
  unfold key
  dsimp only
  rw [e]
  exact keyR_fs
theorem HS_fsf {S : CS} {A1 A2 : Nat → FlR} {B : Nat → ShR} (h : HS z ad (((S.set_fl A1).set_sh B).set_fl A2) N M) : HS z ad ((S.set_sh B).set_fl A2) N M := h
theorem k_mark_K (h0 : g_0 l D s0) (hS : HS z ad Q N M) {j1 i1 : Nat} {w1 : It} {r : FlR} {K : List Int} (hj1 : j1 < 3) (hr : Q.fl j1 = r) (hF1 : WFl Q.nS Q.sh r) (hi1 : i1 < r.cnt) (e1 : cIt r i1 w1) (o1 : itm Q w1) (hK : key Q w1 = K) : Ct l D s0 y_Fl_markOf (Cond.code y_Fl_markOf b_Fl_markOf 5 (some .long)) (rk 2 0 0) [.ref (ad 3 j1), .int (nI i1)] M (fR (some (.long (mkK K))) M) := by
  subst hK
  exact k_mark_of h0 hS hj1 hr hF1 hi1 e1 o1
theorem layZ_b (h0 : g_0 l D s0) {S : CS} {j i s : Nat} {r : FlR} {rs : ShR} {ce : CeR} (h : gF (gzz D s0 (p_, l, e_, R_, s_, m_, ar_, be_, me_, c_) (rk 61 0 0) Fp 3) b_Fl_layFromZero y_Fl_layFromZero.cls none [] y_Fl_layFromZero.name) (hj : j < 3) (hc : c < S.nC) (hs : s < S.nS) (hi3 : i < 3000) (h_fl : S.fl j = r) (h_ce : S.ce c = ce) (h_sh : S.sh s = rs) (hil : i < r.cnt) (hwf : WFl S.nS S.sh r) (e1 : r.sh i = some s) (ht : r.tu i < 8) (h24 : rs.cnt ≤ 24) (hcn : 0 < rs.cnt) (hO : OrdOk rs (r.tu i)) (hbx : Big (r.xs i - ce.bx.x0)) (hby : Big (r.ys i - ce.bx.y0)) (hwp : WPt rs) (hS : HS z ad S N M) (k : ∀ (M' : gH) (a b' : Nat → Int32), ¬ b' (r.tu i) = 0 → OrdOk ((rs.set_fi a).set_st b') (r.tu i) → (∀ u, u ≠ r.tu i → a u = rs.fi u ∧ b' u = rs.st u) → HS z ad ((S.set_sh (va_up S.sh s ((rs.set_fi a).set_st b'))).set_fl (va_up S.fl j ((rXY r i (r.xs i - ce.bx.x0) (r.ys i - ce.bx.y0)).set_mark (r.mark + mkK (keyR rs (r.tu i) (r.xs i - ce.bx.x0).toInt (r.ys i - ce.bx.y0).toInt))))) N M' → G (gzz D s0 (p_, l, e_, R_, s_, m_, ar_, be_, me_, c_) (rk 61 0 0) Fp 3) 18 [(0, .ref (ad 3 j)), (1, .ref (ad 12 c)), (2, .int (nI (i + 1)))] [] M' 0 0) : G (gzz D s0 (p_, l, e_, R_, s_, m_, ar_, be_, me_, c_) (rk 61 0 0) Fp 3) 18 [(0, .ref (ad 3 j)), (1, .ref (ad 12 c)), (2, .int (nI i))] [] M 0 0 := by
  have hcnt := hwf.1
  refine ri_iload_n h d_Fl_layFromZero_18 rfl ?_
  refine ri_aload_n h d_Fl_layFromZero_19 rfl ?_
  refine ri_get h d_Fl_layFromZero_20 fl_Fl_37 (by first | assumption | exact hS.fl_of (by first | assumption | omega) (by assumption) | exact hS.fl (by first | assumption | omega) | exact gup_s) (by rfl) ?_
  first | refine ri_icmpN_ge h 100 d_Fl_layFromZero_23 (by decide) (by omega) (by omega) (fun c_23 => ?_) (fun c_23 => ?_) | refine ri_icmp_ge h 100 d_Fl_layFromZero_23 (by decide) (fun c_23 => ?_) (fun c_23 => ?_)
  · omega
  refine ri_aload_n h d_Fl_layFromZero_26 rfl ?_
  refine ri_get h d_Fl_layFromZero_27 fl_Fl_24 (by first | assumption | exact hS.fl_of (by first | assumption | omega) (by assumption) | exact hS.fl (by first | assumption | omega) | exact gup_s) (by rfl) ?_
  refine ri_iload_n h d_Fl_layFromZero_30 rfl ?_
  refine ri_dup2 h d_Fl_layFromZero_31 rfl rfl ?_
  refine ri_lald h _ d_Fl_layFromZero_32 (by first | assumption | exact hS.flx_of (by first | assumption | omega) (by assumption) | exact hS.flx (by first | assumption | omega)) (by first | rfl | assumption) (by first | assumption | omega) (by first | decide | omega) ?_
  refine ri_aload_n h d_Fl_layFromZero_33 rfl ?_
  refine ri_get h d_Fl_layFromZero_34 fl_Fl_133 (by first | assumption | exact hS.ce_of (by first | assumption | omega) (by assumption) | exact hS.ce (by first | assumption | omega) | exact gup_s) (by rfl) ?_
  refine ri_get h d_Fl_layFromZero_37 fl_Fl_137 (by first | assumption | exact hS.ceb_of (by first | assumption | omega) (by assumption) | exact hS.ceb (by first | assumption | omega) | exact hS.shb_of (by first | assumption | omega) (by assumption) | exact hS.shb (by first | assumption | omega) | exact hS.plb_of (by first | assumption | omega) (by assumption) | exact hS.plb (by first | assumption | omega) | exact hS.sb | exact gup_s) (by rfl) ?_
  refine ri_lsub h d_Fl_layFromZero_40 ?_
  refine ri_last h _ d_Fl_layFromZero_41 (by first | assumption | exact hS.flx_of (by first | assumption | omega) (by assumption) | exact hS.flx (by first | assumption | omega)) (by first | rfl | assumption) (by first | assumption | omega) (by first | decide | omega) ?_
  refine ri_gH2 (hS.p_flx (by first | assumption | omega) (by first | assumption | rfl) _) (fun M hS h_fl => ?_)
  refine ri_aload_n h d_Fl_layFromZero_42 rfl ?_
  refine ri_get h d_Fl_layFromZero_43 fl_Fl_28 (by first | assumption | exact hS.fl_of (by first | assumption | omega) (by assumption) | exact hS.fl (by first | assumption | omega) | exact gup_s) (by rfl) ?_
  refine ri_iload_n h d_Fl_layFromZero_46 rfl ?_
  refine ri_dup2 h d_Fl_layFromZero_47 rfl rfl ?_
  refine ri_lald h _ d_Fl_layFromZero_48 (by first | assumption | exact hS.fly_of (by first | assumption | omega) (by assumption) | exact hS.fly (by first | assumption | omega)) (by first | rfl | assumption) (by first | assumption | omega) (by first | decide | omega) ?_
  refine ri_aload_n h d_Fl_layFromZero_49 rfl ?_
  refine ri_get h d_Fl_layFromZero_50 fl_Fl_133 (by first | assumption | exact hS.ce_of (by first | assumption | omega) (by assumption) | exact hS.ce (by first | assumption | omega) | exact gup_s) (by rfl) ?_
  refine ri_get h d_Fl_layFromZero_53 fl_Fl_142 (by first | assumption | exact hS.ceb_of (by first | assumption | omega) (by assumption) | exact hS.ceb (by first | assumption | omega) | exact hS.shb_of (by first | assumption | omega) (by assumption) | exact hS.shb (by first | assumption | omega) | exact hS.plb_of (by first | assumption | omega) (by assumption) | exact hS.plb (by first | assumption | omega) | exact hS.sb | exact gup_s) (by rfl) ?_
  refine ri_lsub h d_Fl_layFromZero_56 ?_
  refine ri_last h _ d_Fl_layFromZero_57 (by first | assumption | exact hS.fly_of (by first | assumption | omega) (by assumption) | exact hS.fly (by first | assumption | omega)) (by first | rfl | assumption) (by first | assumption | omega) (by first | decide | omega) ?_
  refine ri_gH2 (hS.p_fly (by first | assumption | omega) (by first | assumption | rfl) _) (fun M hS h_fl => ?_)
  have hS : HS z ad (S.set_fl (va_up S.fl j ((r.set_xs (va_up r.xs i (r.xs i - ce.bx.x0))).set_ys (va_up r.ys i (r.ys i - ce.bx.y0))))) N M := hS.fl2
  have h_fl : (S.set_fl (va_up S.fl j ((r.set_xs (va_up r.xs i (r.xs i - ce.bx.x0))).set_ys (va_up r.ys i (r.ys i - ce.bx.y0))))).fl j = (r.set_xs (va_up r.xs i (r.xs i - ce.bx.x0))).set_ys (va_up r.ys i (r.ys i - ce.bx.y0)) := va_up_s
  refine ri_aload_n h d_Fl_layFromZero_58 rfl ?_
  refine ri_get h d_Fl_layFromZero_59 fl_Fl_31 (by first | assumption | exact hS.fl_of (by first | assumption | omega) (by assumption) | exact hS.fl (by first | assumption | omega) | exact gup_s) (by rfl) ?_
  refine ri_iload_n h d_Fl_layFromZero_62 rfl ?_
  refine ri_iload_n h d_Fl_layFromZero_63 rfl ?_
  refine ri_iast h _ d_Fl_layFromZero_64 (by first | assumption | exact hS.flo_of (by first | assumption | omega) (by assumption) | exact hS.flo (by first | assumption | omega)) (by first | rfl | assumption) (by first | assumption | omega) (by first | decide | omega) ?_
  refine ri_gH2 (hS.p_flo (by first | assumption | omega) (by first | assumption | rfl) _ _) (fun M hS h_fl => ?_)
  have hS : HS z ad (S.set_fl (va_up S.fl j (rXY r i (r.xs i - ce.bx.x0) (r.ys i - ce.bx.y0)))) N M := hS.fl2
  have h_fl : (S.set_fl (va_up S.fl j (rXY r i (r.xs i - ce.bx.x0) (r.ys i - ce.bx.y0)))).fl j = rXY r i (r.xs i - ce.bx.x0) (r.ys i - ce.bx.y0) := va_up_s
  refine ri_aload_n h d_Fl_layFromZero_65 rfl ?_
  refine ri_get h d_Fl_layFromZero_66 fl_Fl_11 (by first | assumption | exact hS.fl_of (by first | assumption | omega) (by assumption) | exact hS.fl (by first | assumption | omega) | exact gup_s) (by rfl) ?_
  refine ri_iload_n h d_Fl_layFromZero_69 rfl ?_
  refine ri_aald h 4 _ d_Fl_layFromZero_70 (Or.inr rfl) (by first | assumption | exact hS.fls_of (by first | assumption | omega) (by assumption) | exact hS.fls (by first | assumption | omega)) (by first | rfl | assumption) (by first | assumption | omega) (by first | decide | omega) (by first | assumption | exact congrArg (Option.map (ad 18)) (by assumption)) ?_
  refine ri_aload_n h d_Fl_layFromZero_71 rfl ?_
  refine ri_get h d_Fl_layFromZero_72 fl_Fl_21 (by first | assumption | exact hS.fl_of (by first | assumption | omega) (by assumption) | exact hS.fl (by first | assumption | omega) | exact gup_s) (by rfl) ?_
  refine ri_iload_n h d_Fl_layFromZero_75 rfl ?_
  refine ri_iald h _ d_Fl_layFromZero_76 (by first | assumption | exact hS.flt_of (by first | assumption | omega) (by assumption) | exact hS.flt (by first | assumption | omega)) (by first | rfl | assumption) (by first | assumption | omega) (by first | decide | omega) ?_
  refine ri_dV0_1 (r := (gR4, gT4, 10)) h d_Fl_layFromZero_77 cv_Fl_145 (by first | exact hS.lcO | exact hS.lsO | exact hS.lpO | exact hS.cesO (by first | assumption | omega) | exact hS.cepO (by first | assumption | omega) | exact ⟨_, (by first | assumption | exact hS.st | exact hS.mo | exact hS.out | exact hS.sb | exact hS.ce (by first | assumption | omega) | exact hS.ceb (by first | assumption | omega) | exact hS.sh (by first | assumption | omega) | exact hS.shb (by first | assumption | omega) | exact hS.pl (by first | assumption | omega) | exact hS.plb (by first | assumption | omega) | exact hS.fl (by first | assumption | omega) | exact gup_s | (refine gup_t (by assumption) ?_; first | assumption | exact gup_s | (refine gup_t (by assumption) ?_; first | assumption | exact gup_s | (refine gup_t (by assumption) ?_; first | assumption | exact gup_s))))⟩) rfl (k_settle h0 hS hs ht h_sh h24 hcn hO) (Nat.le_of_ble_eq_true rfl) (Nat.le_of_ble_eq_true rfl) (Nat.le_of_ble_eq_true rfl) (Nat.le_of_ble_eq_true rfl) (Nat.le_of_ble_eq_true rfl) (fun M hS => ?_)
  obtain ⟨a, b', hS, hb, hO2, hsame⟩ := hS
  refine ri_aload_n h d_Fl_layFromZero_80 rfl ?_
  refine ri_dup h d_Fl_layFromZero_81 rfl ?_
  refine ri_get h d_Fl_layFromZero_82 fl_Fl_126 (by first | assumption | exact hS.fl_of (by first | assumption | omega) (by assumption) | exact hS.fl (by first | assumption | omega) | exact gup_s) (by rfl) ?_
  refine ri_aload_n h d_Fl_layFromZero_85 rfl ?_
  refine ri_iload_n h d_Fl_layFromZero_86 rfl ?_
  refine ri_cVv_1 (r := (gR2, gT2, 11)) h d_Fl_layFromZero_87 cv_Fl_149 (by first | exact hS.lcO | exact hS.lsO | exact hS.lpO | exact hS.cesO (by first | assumption | omega) | exact hS.cepO (by first | assumption | omega) | exact ⟨_, (by first | assumption | exact hS.st | exact hS.mo | exact hS.out | exact hS.sb | exact hS.ce (by first | assumption | omega) | exact hS.ceb (by first | assumption | omega) | exact hS.sh (by first | assumption | omega) | exact hS.shb (by first | assumption | omega) | exact hS.pl (by first | assumption | omega) | exact hS.plb (by first | assumption | omega) | exact hS.fl (by first | assumption | omega) | exact gup_s | (refine gup_t (by assumption) ?_; first | assumption | exact gup_s | (refine gup_t (by assumption) ?_; first | assumption | exact gup_s | (refine gup_t (by assumption) ?_; first | assumption | exact gup_s))))⟩) rfl (k_mark_K (w1 := (s, r.tu i, r.xs i - ce.bx.x0, r.ys i - ce.bx.y0)) h0 hS hj va_up_s (WFl_up hwf h_sh) hil (cIt_rXY e1) (itm_of va_up_s hs ht h24 hcn hb hO2 hbx hby (WPt_fs hwp)) key_up) (Nat.le_of_ble_eq_true rfl) (Nat.le_of_ble_eq_true rfl) (Nat.le_of_ble_eq_true rfl) (Nat.le_of_ble_eq_true rfl) (Nat.le_of_ble_eq_true rfl) ?_
  first | refine ri_laddN h d_Fl_layFromZero_90 ?_ | refine ri_ladd h d_Fl_layFromZero_90 ?_
  refine ri_p_mark h d_Fl_layFromZero_91 fl_Fl_126 hS (by first | assumption | omega) (by first | assumption | rfl) (fun M hS h_fl => ?_)
  first | refine ri_iincN h d_Fl_layFromZero_94 rfl (Nat.le_of_ble_eq_true rfl) ?_ | refine ri_iinc h _ d_Fl_layFromZero_94 rfl rfl (Nat.le_of_ble_eq_true rfl) ?_
  refine ri_goto h 18 d_Fl_layFromZero_97 (by decide) ?_
  exact ri_ls [(0, .ref (ad 3 j)), (1, .ref (ad 12 c)), (2, .int (nI (i + 1)))] ⟨rfl, rfl, rfl, trivial⟩ (k M a b' hb hO2 hsame (HS_fsf hS.fl2))
theorem layZ_eq {r rr : FlR} {j s : Nat} {a b' : Nat → Int32} : ((msQ (eS Q F T (va_up g j r)) m sz b pb).set_sh (va_up (fsS Q.sh F T) s (((fsS Q.sh F T s).set_fi a).set_st b'))).set_fl (va_up (va_up g j r) j rr) = msQ (eS Q (va_up F s a) (va_up T s b') (va_up g j rr)) m sz b pb := by
  rw [fsS_up, va_up_u]
theorem OrdOk_fs {r : ShR} {a b' : Nat → Int32} {t : Nat} (ha : a t = r.fi t) (hb : b' t = r.st t) (h : OrdOk r t) : OrdOk ((r.set_fi a).set_st b') t := by
  rcases h with h | ⟨f, h1, h2, h3, h4⟩
  · exact Or.inl (hb.trans h)
  · refine Or.inr ⟨f, h1, ha.trans h2, ?_, ?_⟩
    · show alw r f (b' t)
      rw [hb]; exact h3
    · show ∀ f' s', alw r f' s' → lexLe r.cnt (cX r t f (b' t)) (cY r t f (b' t)) (cX r t f' s') (cY r t f' s')
      rw [hb]; exact h4
/-- the orders of one more shape are settled -/
theorem ord_up {s1 t1 : Nat} {a b' : Nat → Int32} (hO : ∀ s, s < Q.nS → ∀ t, t < 8 → OrdOk (fsS Q.sh F T s) t) (hO2 : OrdOk (((fsS Q.sh F T s1).set_fi a).set_st b') t1) (hsame : ∀ u, u ≠ t1 → a u = (fsS Q.sh F T s1).fi u ∧ b' u = (fsS Q.sh F T s1).st u) : ∀ s, s < Q.nS → ∀ t, t < 8 → OrdOk (fsS Q.sh (va_up F s1 a) (va_up T s1 b') s) t := by
  intro s hs t ht
  rw [← fsS_up]
  by_cases e : s = s1
  · subst e
    rw [va_up_s]
    by_cases e2 : t = t1
    · subst e2; exact hO2
    · exact OrdOk_fs (hsame t e2).1 (hsame t e2).2 (hO s hs t ht)
  · rw [va_up_n e]
    exact hO s hs t ht
theorem set_up {s1 t1 : Nat} {a b' : Nat → Int32} (hb : ¬ b' t1 = 0) (hsame : ∀ u, u ≠ t1 → a u = (fsS Q.sh F T s1).fi u ∧ b' u = (fsS Q.sh F T s1).st u) (s t : Nat) (h : ¬ T s t = 0) : ¬ va_up T s1 b' s t = 0 := by
  by_cases e : s = s1
  · subst e
    rw [va_up_s]
    by_cases e2 : t = t1
    · subst e2; exact hb
    · rw [(hsame t e2).2]; exact h
  · rw [va_up_n e]; exact h
def LZP (z : Nat) (ad : gA) (Q : CS) (N : MS) (T : Nat → Nat → Int32) (g : Nat → FlR) (m : Nat → Int32) (sz : Nat → Nat) (b pb : Nat → BxR) (j : Nat) (zs : List It) (M' : gH) : Prop := ∃ (F' T' : Nat → Nat → Int32) (r : FlR), HS z ad (msQ (eS Q F' T' (va_up g j r)) m sz b pb) N M' ∧ (∀ s, s < Q.nS → ∀ t, t < 8 → OrdOk (fsS Q.sh F' T' s) t) ∧ (∀ s t, ¬ T s t = 0 → ¬ T' s t = 0) ∧ FG (eS Q F' T' (va_up g j r)) r zs
theorem LZP.mk {F' T' : Nat → Nat → Int32} {r : FlR} {j : Nat} {zs : List It} {M' : gH} (h1 : HS z ad (msQ (eS Q F' T' (va_up g j r)) m sz b pb) N M') (h2 : ∀ s, s < Q.nS → ∀ t, t < 8 → OrdOk (fsS Q.sh F' T' s) t) (h3 : ∀ s t, ¬ T s t = 0 → ¬ T' s t = 0) (h4 : FG (eS Q F' T' (va_up g j r)) r zs) : LZP z ad Q N T g m sz b pb j zs M' := ⟨F', T', r, h1, h2, h3, h4⟩
/-- the loop -/
theorem layZ_lp (h0 : g_0 l D s0) {j : Nat} {ts : List It} (h : gF (gzz D s0 (p_, l, e_, R_, s_, m_, ar_, be_, me_, c_) (rk 61 0 0) (fS none (LZP z ad Q N T g m sz b pb j (ts.map (zit (b c).x0 (b c).y0)))) 3) b_Fl_layFromZero y_Fl_layFromZero.cls none [] y_Fl_layFromZero.name) (hj : j < 3) (hc : c < Q.nC) (hlen : ts.length ≤ 3000) (hok : ItOk Q ts) (hzi : ∀ w, w ∈ ts → w.1 < Q.nS ∧ w.2.1 < 8 ∧ (Q.sh w.1).cnt ≤ 24 ∧ 0 < (Q.sh w.1).cnt ∧ Big (w.2.2.1 - (b c).x0) ∧ Big (w.2.2.2 - (b c).y0) ∧ WPt (Q.sh w.1)) : ∀ (q i : Nat), i + q = ts.length → ∀ (M : gH) (F' T' : Nat → Nat → Int32) (r : FlR), HS z ad (msQ (eS Q F' T' (va_up g j r)) m sz b pb) N M → LZ Q ts (b c).x0 (b c).y0 i r → (∀ s, s < Q.nS → ∀ t, t < 8 → OrdOk (fsS Q.sh F' T' s) t) → (∀ s t, ¬ T s t = 0 → ¬ T' s t = 0) → (∀ (k : Nat) (h : k < ts.length), k < i → ¬ T' ts[k].1 ts[k].2.1 = 0) → G (gzz D s0 (p_, l, e_, R_, s_, m_, ar_, be_, me_, c_) (rk 61 0 0) (fS none (LZP z ad Q N T g m sz b pb j (ts.map (zit (b c).x0 (b c).y0)))) 3) 18 [(0, .ref (ad 3 j)), (1, .ref (ad 12 c)), (2, .int (nI i))] [] M 0 0 := by
  intro q
  induction q with
  | zero =>
    intro i hi M F' T' r hS hZ hO' hT' hst
    have h_fl : (msQ (eS Q F' T' (va_up g j r)) m sz b pb).fl j = r := va_up_s
    refine ri_iload_n h d_Fl_layFromZero_18 rfl ?_
    refine ri_aload_n h d_Fl_layFromZero_19 rfl ?_
    refine ri_get h d_Fl_layFromZero_20 fl_Fl_37 (hS.fl_of hj h_fl) (v := .int (nI ts.length)) (congrArg (fun x => some (Value.int (nI x))) hZ.1) ?_
    first | refine ri_icmpN_ge h 100 d_Fl_layFromZero_23 (by decide) (by omega) (by omega) (fun c_23 => ?_) (fun c_23 => ?_) | refine ri_icmp_ge h 100 d_Fl_layFromZero_23 (by decide) (fun c_23 => ?_) (fun c_23 => ?_)
    · refine ri_return h d_Fl_layFromZero_100 (Nat.le_of_ble_eq_true rfl) (Nat.le_of_ble_eq_true rfl) ?_
      obtain rfl : i = ts.length := by omega
      exact ⟨rfl, LZP.mk hS hO' hT' (hZ.fg hok hlen hO' (fun k h => hst k h h) (fun w hw => ⟨(hzi w hw).2.2.1, (hzi w hw).2.2.2.1, (hzi w hw).2.2.2.2.1, (hzi w hw).2.2.2.2.2.1, (hzi w hw).2.2.2.2.2.2⟩))⟩
    · omega
  | succ q ih =>
    intro i hi M F' T' r hS hZ hO' hT' hst
    have hil : i < ts.length := by omega
    have hi3 : i < 3000 := by omega
    obtain ⟨z1, z2, z3, z4, z5, z6, z7⟩ := hzi _ (List.getElem_mem hil)
    obtain ⟨g1, g2, g3, g4, g5⟩ := hZ.2.1 i hil
    rw [if_neg (Nat.lt_irrefl i)] at g4 g5
    refine layZ_b (S := msQ (eS Q F' T' (va_up g j r)) m sz b pb) (s := ts[i].1) (r := r) (rs := fsS Q.sh F' T' ts[i].1) (ce := (((Q.ce c).set_meas (m c)).set_size (sz c)).set_bx (b c)) h0 h hj hc z1 hi3 va_up_s rfl rfl (by rw [hZ.1]; exact hil) (WFl_of (fun _ => rfl) (hZ.wfl hok hlen)) g1 (by rw [g3]; exact z2) z3 z4 (by rw [g3]; exact hO' _ z1 _ z2) (by rw [g4]; exact z5) (by rw [g5]; exact z6) (WPt_fs z7) hS (fun M' a b' hb hO2 hsame hS => ?_)
    rw [g3] at hb hO2 hsame
    have hS := Eq.mp (congrArg (fun S => HS z ad S N M') layZ_eq) hS
    refine ih (i + 1) (by omega) M' _ _ _ hS ?_ (ord_up hO' hO2 hsame) (fun s t ht => set_up hb hsame s t (hT' s t ht)) (fun k hk hki => ?_)
    · rw [g3, g4, g5]
      exact hZ.step hil (congrArg mkK keyR_fs)
    · by_cases e : k = i
      · subst e
        rw [va_up_s]
        exact hb
      · exact set_up hb hsame _ _ (hst k hk (by omega))
theorem k_layZ (h0 : g_0 l D s0) (hW : WF Q) {j : Nat} (hj : j < 3) (hS : HS z ad (msQ (eS Q F T g) m sz b pb) N M) (hO : ∀ s, s < Q.nS → ∀ t, t < 8 → OrdOk (fsS Q.sh F T s) t) (hd : ∀ x, x < Q.nC → dnC Q (-1) sz b x) (hgs : ∀ i s, (g j).sh i = some s → s < Q.nS) (hc : c < Q.nC) (hn : SZ Q (-1) c ≤ 3000) : Ct l D s0 y_Fl_layFromZero (Cond.code y_Fl_layFromZero b_Fl_layFromZero 3 none) (rk 61 0 0) [.ref (ad 3 j), .ref (ad 12 c)] M (fS none (LZP z ad Q N T g m sz b pb j ((FLn Q (-1) 21 c (0, 0, 0)).map (zit (b c).x0 (b c).y0)))) := by
  have hlen : (FLn Q (-1) 21 c (0, 0, 0)).length ≤ 3000 := by rw [FLn_len hW.wl hW.wb 21 c _ hc (rho_lt hW.wb)]; exact hn
  have hB : HB (b c) (PT Q (-1) c) := (hd c hc).2
  have hok := FLn_ok (lay := -1) hW.wl hW.wc 21 c (0, 0, 0) hc (by decide)
  have hzi : ∀ w, w ∈ FLn Q (-1) 21 c (0, 0, 0) → w.1 < Q.nS ∧ w.2.1 < 8 ∧ (Q.sh w.1).cnt ≤ 24 ∧ 0 < (Q.sh w.1).cnt ∧ Big (w.2.2.1 - (b c).x0) ∧ Big (w.2.2.2 - (b c).y0) ∧ WPt (Q.sh w.1) := fun w h => by
    obtain ⟨a1, a2, a3, a4, a5, a6, a7, -⟩ := zit_ok (b := b) hW hc hB h
    exact ⟨a1, a2, a3, a4, a5, a6, a7⟩
  have hLn : FLn (eS Q F T g) (-1) 21 c (0, 0, 0) = FLn Q (-1) 21 c (0, 0, 0) := FLn_eS _ _ _
  have hsz : ∀ x, x < (eS Q F T g).nC → sz x = min (SZ (eS Q F T g) (-1) x) 3001 := fun x hx => by
    rw [show SZ (eS Q F T g) (-1) x = SZ Q (-1) x from SZn_eS _ _]; exact (hd x hx).1
  have hW1 : WB (eS Q F T g) := WB_eS hW.wb
  have hW2 : WL (eS Q F T g) := WL_eS hW.wl
  have hW3 : WX (eS Q F T g) := WX_eS hW.wx
  have hW4 : WSC (eS Q F T g) := WSC_eS hW.wc
  have hlay := k_lay (Q := eS Q F T g) (lay := -1) h0 hW1 hW2 hW3 hW4 hj hsz hgs hc hS (by rw [hLn]; exact hlen)
  rw [hLn] at hlay
  clear hsz hW1 hW2 hW3 hW4
  generalize FLn Q (-1) 21 c (0, 0, 0) = ts at hlay hlen hok hzi ⊢
  refine Ct.of h0 (by decide +kernel) rfl fun X hX h => ?_
  obtain ⟨p_, l', e_, R_, s_, m_, ar_, be_, me_, c_⟩ := X
  obtain rfl : l' = l := hX
  refine ri_aload_n h d_Fl_layFromZero_0 rfl ?_
  refine ri_aload_n h d_Fl_layFromZero_1 rfl ?_
  refine ri_iconst h (-1) d_Fl_layFromZero_2 rfl ?_
  refine ri_dV0_2 (r := (gR2, gT2, 11)) h d_Fl_layFromZero_3 cv_Fl_122 (by first | exact hS.lcO | exact hS.lsO | exact hS.lpO | exact hS.cesO (by first | assumption | omega) | exact hS.cepO (by first | assumption | omega) | exact ⟨_, (by first | assumption | exact hS.st | exact hS.mo | exact hS.out | exact hS.sb | exact hS.ce (by first | assumption | omega) | exact hS.ceb (by first | assumption | omega) | exact hS.sh (by first | assumption | omega) | exact hS.shb (by first | assumption | omega) | exact hS.pl (by first | assumption | omega) | exact hS.plb (by first | assumption | omega) | exact hS.fl (by first | assumption | omega) | exact gup_s | (refine gup_t (by assumption) ?_; first | assumption | exact gup_s | (refine gup_t (by assumption) ?_; first | assumption | exact gup_s | (refine gup_t (by assumption) ?_; first | assumption | exact gup_s))))⟩) rfl (hlay) (Nat.le_of_ble_eq_true rfl) (Nat.le_of_ble_eq_true rfl) (Nat.le_of_ble_eq_true rfl) (Nat.le_of_ble_eq_true rfl) (Nat.le_of_ble_eq_true rfl) (fun M hS => ?_)
  obtain ⟨r0, hS, hcl, hk⟩ := hS
  have hS : HS z ad ((msQ (eS Q F T g) m sz b pb).set_fl (va_up g j r0)) N M := hS
  rw [eS_ms, C_fl] at hS
  obtain ⟨S, hSe⟩ : ∃ S, S = ((msQ Q m sz b pb).set_sh (fsS Q.sh F T)).set_fl (va_up g j r0) := ⟨_, rfl⟩
  rw [← hSe] at hS
  have hSf : S.fl = va_up g j r0 := by rw [hSe, C_1]
  have h_fl : S.fl j = r0 := by rw [hSf, va_up_s]
  refine ri_aload_n h d_Fl_layFromZero_6 rfl ?_
  refine ri_lconst h 0 d_Fl_layFromZero_7 rfl ?_
  refine ri_p_mark h d_Fl_layFromZero_8 fl_Fl_126 hS (by first | assumption | omega) (by first | assumption | rfl) (fun M hS h_fl => ?_)
  refine ri_aload_n h d_Fl_layFromZero_11 rfl ?_
  refine ri_iconst h 0 d_Fl_layFromZero_12 rfl ?_
  refine ri_p_srt h d_Fl_layFromZero_13 fl_Fl_129 hS (by first | assumption | omega) (by first | assumption | rfl) (by first | exact Or.inl rfl | exact Or.inr rfl | assumption) (fun M hS h_fl => ?_)
  have hS : HS z ad (S.set_fl (va_up S.fl j ((r0.set_mark 0).set_srt 0))) N M := hS.fl2
  rw [hSf, va_up_u, hSe, C_fl, ← eS_ms (Q := Q)] at hS
  refine ri_iconstN h 0 d_Fl_layFromZero_16 rfl ?_
  refine ri_istore_n h d_Fl_layFromZero_17 (Nat.le_of_ble_eq_true rfl) ?_
  refine ri_ls [(0, .ref (ad 3 j)), (1, .ref (ad 12 c)), (2, .int (nI 0))] ⟨rfl, rfl, rfl, trivial⟩ (layZ_lp h0 h hj hc hlen hok hzi ts.length 0 (by omega) M F T ((r0.set_mark 0).set_srt 0) hS ⟨hcl.1, fun k hk => ?_, fun k hk => by omega, rfl, hk.2.2.2.2.2, rfl⟩ hO (fun s t h => h) (fun k _ hk => by omega))
  obtain ⟨g1, g2, g3, g4, g5⟩ := hcl.2 k hk
  exact ⟨g1, g2, g3, g4, g5⟩
end LAY
