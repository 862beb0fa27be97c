/-! equalTo of the class: its second loop -/
section EQM
variable {l : Launch} {D : gD} {s0 : State} {M : gH} {z : Nat} {ad : gA} {Q S : CS} {N : MS} {F T : Nat → Nat → Int32} {g : Nat → FlR} {m : Nat → Int32} {sz : Nat → Nat} {b pb : Nat → BxR} {c d i : Nat} {cl sl : Nat}
variable {p_ : Program} {e_ : Env} {R_ : Room} {s_ : State} {m_ : MethodId} {ar_ : Array Value} {be_ : List Frame} {me_ : Method} {c_ : Code} {Fp : gR → gH → Prop}
/-- the flats that a cell lays from zero -/
abbrev zsC (Q : CS) (b : Nat → BxR) (c : Nat) : List It := (FLn Q (-1) 21 c (0, 0, 0)).map (zit (b c).x0 (b c).y0)
/-- what equalTo keeps of the state -/
def EK (z : Nat) (ad : gA) (Q : CS) (N : MS) (m : Nat → Int32) (sz : Nat → Nat) (b pb : Nat → BxR) (F T : Nat → Nat → Int32) (g : Nat → FlR) (M : gH) : Prop := HS z ad (msQ (eS Q F T g) m sz b pb) N M ∧ (∀ s, s < Q.nS → ∀ t, t < 8 → OrdOk (fsS Q.sh F T s) t) ∧ g 0 = Q.fl 0 ∧ ∀ j, j < 3 → ∀ i s, (g j).sh i = some s → s < Q.nS
theorem gs_up {j : Nat} {r : FlR} (h : ∀ j, j < 3 → ∀ i s, (g j).sh i = some s → s < Q.nS) (hr : ∀ i s, r.sh i = some s → s < Q.nS) : ∀ k, k < 3 → ∀ i s, (va_up g j r k).sh i = some s → s < Q.nS := by
  intro k hk
  by_cases e : k = j
  · subst e; rw [va_up_s]; exact hr
  · rw [va_up_n e]; exact h k hk
theorem size_no (hWF : WF Q) (hdn : ∀ x, x < Q.nC → dnC Q (-1) sz b x) (hc : c < Q.nC) (hi : i < Q.nC) (hnc : SZ Q (-1) c ≤ 3000) (hni : SZ Q (-1) i ≤ 3000) (hp : (keys Q b c).Perm (keys Q b i)) : sSz ((((Q.ce c).set_meas (m c)).set_size (sz c)).set_bx (b c)) ((((Q.ce i).set_meas (m i)).set_size (sz i)).set_bx (b i)) := by
  have d1 := hdn c hc
  have d2 := hdn i hi
  have hl := hp.length_eq
  rw [keys_len hWF hc, keys_len hWF hi] at hl
  have e1 := d1.1
  have e2 := d2.1
  refine ⟨show sz c = sz i by omega, ?_⟩
  by_cases hz : SZ Q (-1) c = 0
  · exact Or.inl (show sz c = 0 by omega)
  · have n0 : ∀ x, x < Q.nC → ¬ SZ Q (-1) x = 0 → HB (b x) (PT Q (-1) x) → (b x).n = 0 := fun x hx hz hB => by
      rcases hB with ⟨q1, q2⟩ | ⟨q1, -⟩
      · exact absurd ((SZ_0 hWF.wl hWF.wx 21 x hx).mpr q2) hz
      · exact q1
    exact Or.inr (keys_wh hWF hc hi d1.2 d2.2 hp (n0 c hc hz d1.2) (n0 i hi (by omega) d2.2))
/-- one cell is held against another -/
theorem eq_cmp (h0 : g_0 l D s0) (h : gF (gzz D s0 (p_, l, e_, R_, s_, m_, ar_, be_, me_, c_) rkC Fp 6) b_ST_equalTo y_ST_equalTo.cls (some .int) [] y_ST_equalTo.name) (hWF : WF Q) (hdn : ∀ x, x < Q.nC → dnC Q (-1) sz b x) (hi : i < Q.nC) (hni : SZ Q (-1) i ≤ 3000) (hcl : cl ≤ 30) (hsl : sl ≤ 300) (hE : EK z ad Q N m sz b pb F T g M) (hf : FG (eS Q F T g) (g 1) (zsC Q b c)) (ky : (keys Q b c).Perm (keys Q b i) → ∀ M F T g, EK z ad Q N m sz b pb F T g M → Fp (.inl (some (.int (nI i)))) M) (kn : ¬ (keys Q b c).Perm (keys Q b i) → ∀ M F T g, EK z ad Q N m sz b pb F T g M → FG (eS Q F T g) (g 1) (zsC Q b c) → G (gzz D s0 (p_, l, e_, R_, s_, m_, ar_, be_, me_, c_) rkC Fp 6) 43 [(0, .ref (ad 0 0)), (1, .int (nI c)), (2, .ref (ad 12 c)), (3, .int (nI 1)), (4, .int (nI (i + 1)))] [] M cl sl) : G (gzz D s0 (p_, l, e_, R_, s_, m_, ar_, be_, me_, c_) rkC Fp 6) 89 [(0, .ref (ad 0 0)), (1, .int (nI c)), (2, .ref (ad 12 c)), (3, .int (nI 1)), (4, .int (nI i)), (5, .ref (ad 12 i))] [] M cl sl := by
  obtain ⟨hS, hO, hg0, hgs⟩ := hE
  refine ri_aload_n h d_ST_equalTo_89 rfl ?_
  refine ri_get h d_ST_equalTo_90 fl_ST_32 (by first | assumption | exact hS.st | exact gup_s) (by rfl) ?_
  refine ri_aload h d_ST_equalTo_93 rfl ?_
  refine ri_dV0_1 (r := (gR2, gT2, 11)) h d_ST_equalTo_95 cv_ST_205 (by first | exact hS.lcO | exact hS.lsO | exact hS.lpO | exact hS.cesO (by first | assumption | omega) | exact hS.cepO (by first | assumption | omega) | exact ⟨_, (by first | assumption | exact hS.st | exact hS.mo | exact hS.out | exact hS.sb | exact hS.ce (by first | assumption | omega) | exact hS.ceb (by first | assumption | omega) | exact hS.sh (by first | assumption | omega) | exact hS.shb (by first | assumption | omega) | exact hS.pl (by first | assumption | omega) | exact hS.plb (by first | assumption | omega) | exact hS.fl (by first | assumption | omega) | exact gup_s | (refine gup_t (by assumption) ?_; first | assumption | exact gup_s | (refine gup_t (by assumption) ?_; first | assumption | exact gup_s | (refine gup_t (by assumption) ?_; first | assumption | exact gup_s))))⟩) rfl (k_layZ h0 hWF (j := 2) (by decide) hS hO hdn (hgs 2 (by decide)) hi hni) (by first | (dsimp only [rk]; omega) | omega | exact Nat.le_of_ble_eq_true rfl) (by first | (dsimp only [rk]; omega) | omega | exact Nat.le_of_ble_eq_true rfl) (by first | (dsimp only [rk]; omega) | omega | exact Nat.le_of_ble_eq_true rfl) (by first | (dsimp only [rk]; omega) | omega | exact Nat.le_of_ble_eq_true rfl) (by first | (dsimp only [rk]; omega) | omega | exact Nat.le_of_ble_eq_true rfl) (fun M hS => ?_)
  obtain ⟨F', T', r, hS, hO', hT', hf2⟩ := hS
  have hf1 : FG (eS Q F' T' (va_up g 2 r)) (g 1) (zsC Q b c) := FG_mono hO' hT' hf
  have e1 : (msQ (eS Q F' T' (va_up g 2 r)) m sz b pb).fl 1 = g 1 := va_up_n (g := g) (v := r) (show (1 : Nat) ≠ 2 by decide)
  have e2 : (msQ (eS Q F' T' (va_up g 2 r)) m sz b pb).fl 2 = r := va_up_s (g := g) (j := 2) (v := r)
  have e0 : (msQ (eS Q F' T' (va_up g 2 r)) m sz b pb).fl 0 = Q.fl 0 := (va_up_n (g := g) (v := r) (show (0 : Nat) ≠ 2 by decide)).trans hg0
  have hf1' : FG (msQ (eS Q F' T' (va_up g 2 r)) m sz b pb) ((msQ (eS Q F' T' (va_up g 2 r)) m sz b pb).fl 1) (zsC Q b c) := by rw [e1]; exact FG_sh rfl rfl hf1
  have hf2' : FG (msQ (eS Q F' T' (va_up g 2 r)) m sz b pb) ((msQ (eS Q F' T' (va_up g 2 r)) m sz b pb).fl 2) (zsC Q b i) := by rw [e2]; exact FG_sh rfl rfl hf2
  have hsame := fun (bb : Int32) => k_same (bb := bb) h0 hS hf1' hf2'
  rw [key_ms] at hsame
  have hEK : ∀ (M' : gH) (g2 : Nat → FlR), HS z ad ((msQ (eS Q F' T' (va_up g 2 r)) m sz b pb).set_fl g2) N M' → g2 0 = (msQ (eS Q F' T' (va_up g 2 r)) m sz b pb).fl 0 → FG (msQ (eS Q F' T' (va_up g 2 r)) m sz b pb) (g2 1) (zsC Q b c) → FG (msQ (eS Q F' T' (va_up g 2 r)) m sz b pb) (g2 2) (zsC Q b i) → EK z ad Q N m sz b pb F' T' g2 M' := fun M' g2 a1 a2 a3 a4 => by
    rw [eS_fl] at a1
    refine ⟨a1, hO', a2.trans e0, fun j hj => ?_⟩
    rcases (show j = 0 ∨ j = 1 ∨ j = 2 by omega) with rfl | rfl | rfl
    · rw [a2, e0]
      exact hWF.wt.2.1 0 (by decide)
    · exact a3.2.2.2.2.2
    · exact a4.2.2.2.2.2
  refine ri_aload_n h d_ST_equalTo_98 rfl ?_
  refine ri_get h d_ST_equalTo_99 fl_ST_29 (by first | assumption | exact hS.st | exact gup_s) (by rfl) ?_
  refine ri_aload_n h d_ST_equalTo_102 rfl ?_
  refine ri_get h d_ST_equalTo_103 fl_ST_32 (by first | assumption | exact hS.st | exact gup_s) (by rfl) ?_
  by_cases hp : (keys Q b c).Perm (keys Q b i)
  · refine ri_dVv_1 (r := (gR2, gT2, 11)) h d_ST_equalTo_106 cv_ST_208 (by first | exact hS.lcO | exact hS.lsO | exact hS.lpO | exact hS.cesO (by first | assumption | omega) | exact hS.cepO (by first | assumption | omega) | exact ⟨_, (by first | assumption | exact hS.st | exact hS.mo | exact hS.out | exact hS.sb | exact hS.ce (by first | assumption | omega) | exact hS.ceb (by first | assumption | omega) | exact hS.sh (by first | assumption | omega) | exact hS.shb (by first | assumption | omega) | exact hS.pl (by first | assumption | omega) | exact hS.plb (by first | assumption | omega) | exact hS.fl (by first | assumption | omega) | exact gup_s | (refine gup_t (by assumption) ?_; first | assumption | exact gup_s | (refine gup_t (by assumption) ?_; first | assumption | exact gup_s | (refine gup_t (by assumption) ?_; first | assumption | exact gup_s))))⟩) rfl (hsame (nI 1) (Or.inl ⟨rfl, hp⟩)) (by first | (dsimp only [rk]; omega) | omega | exact Nat.le_of_ble_eq_true rfl) (by first | (dsimp only [rk]; omega) | omega | exact Nat.le_of_ble_eq_true rfl) (by first | (dsimp only [rk]; omega) | omega | exact Nat.le_of_ble_eq_true rfl) (by first | (dsimp only [rk]; omega) | omega | exact Nat.le_of_ble_eq_true rfl) (by first | (dsimp only [rk]; omega) | omega | exact Nat.le_of_ble_eq_true rfl) (fun M hS => ?_)
    obtain ⟨g2, hS, a2, a3, a4⟩ := hS
    first | refine ri_ifB_eq h 115 d_ST_equalTo_109 (by decide) (fun c_109 => ?_) (fun c_109 => ?_) | refine ri_ifN_eq h 115 d_ST_equalTo_109 (by decide) (by omega) (fun c_109 => ?_) (fun c_109 => ?_) | refine ri_if_eq h 115 d_ST_equalTo_109 (by decide) (fun c_109 => ?_) (fun c_109 => ?_)
    · exact absurd c_109 (by decide)
    refine ri_iload h d_ST_equalTo_112 rfl ?_
    refine ri_ireturn h d_ST_equalTo_114 (by first | (dsimp only [rk]; omega) | omega | exact Nat.le_of_ble_eq_true rfl) (by first | (dsimp only [rk]; omega) | omega | exact Nat.le_of_ble_eq_true rfl) ?_
    exact ky hp M F' T' g2 (hEK M g2 hS a2 a3 a4)
  · refine ri_dVv_1 (r := (gR2, gT2, 11)) h d_ST_equalTo_106 cv_ST_208 (by first | exact hS.lcO | exact hS.lsO | exact hS.lpO | exact hS.cesO (by first | assumption | omega) | exact hS.cepO (by first | assumption | omega) | exact ⟨_, (by first | assumption | exact hS.st | exact hS.mo | exact hS.out | exact hS.sb | exact hS.ce (by first | assumption | omega) | exact hS.ceb (by first | assumption | omega) | exact hS.sh (by first | assumption | omega) | exact hS.shb (by first | assumption | omega) | exact hS.pl (by first | assumption | omega) | exact hS.plb (by first | assumption | omega) | exact hS.fl (by first | assumption | omega) | exact gup_s | (refine gup_t (by assumption) ?_; first | assumption | exact gup_s | (refine gup_t (by assumption) ?_; first | assumption | exact gup_s | (refine gup_t (by assumption) ?_; first | assumption | exact gup_s))))⟩) rfl (hsame (nI 0) (Or.inr ⟨rfl, hp⟩)) (by first | (dsimp only [rk]; omega) | omega | exact Nat.le_of_ble_eq_true rfl) (by first | (dsimp only [rk]; omega) | omega | exact Nat.le_of_ble_eq_true rfl) (by first | (dsimp only [rk]; omega) | omega | exact Nat.le_of_ble_eq_true rfl) (by first | (dsimp only [rk]; omega) | omega | exact Nat.le_of_ble_eq_true rfl) (by first | (dsimp only [rk]; omega) | omega | exact Nat.le_of_ble_eq_true rfl) (fun M hS => ?_)
    obtain ⟨g2, hS, a2, a3, a4⟩ := hS
    first | refine ri_ifB_eq h 115 d_ST_equalTo_109 (by decide) (fun c_109 => ?_) (fun c_109 => ?_) | refine ri_ifN_eq h 115 d_ST_equalTo_109 (by decide) (by omega) (fun c_109 => ?_) (fun c_109 => ?_) | refine ri_if_eq h 115 d_ST_equalTo_109 (by decide) (fun c_109 => ?_) (fun c_109 => ?_)
    · first | refine ri_iincN h d_ST_equalTo_115 rfl (by first | (dsimp only [rk]; omega) | omega | exact Nat.le_of_ble_eq_true rfl) ?_ | refine ri_iinc h _ d_ST_equalTo_115 rfl rfl (by first | (dsimp only [rk]; omega) | omega | exact Nat.le_of_ble_eq_true rfl) ?_
      refine ri_goto h 43 d_ST_equalTo_118 (by decide) ?_
      exact ri_ls [(0, .ref (ad 0 0)), (1, .int (nI c)), (2, .ref (ad 12 c)), (3, .int (nI 1)), (4, .int (nI (i + 1)))] ⟨rfl, rfl, rfl, rfl, rfl, trivial⟩ (kn hp M F' T' g2 (hEK M g2 hS a2 a3 a4) (FG_sh rfl rfl a3))
    · exact absurd rfl c_109
theorem eq_l2 (h0 : g_0 l D s0) (h : gF (gzz D s0 (p_, l, e_, R_, s_, m_, ar_, be_, me_, c_) rkC Fp 6) b_ST_equalTo y_ST_equalTo.cls (some .int) [] y_ST_equalTo.name) (hWF : WF Q) (hdn : ∀ x, x < Q.nC → dnC Q (-1) sz b x) (hc : c < Q.nC) (hn : ∀ x, x ≤ c → SZ Q (-1) x ≤ 3000) (hcl : cl ≤ 30) (hsl : sl ≤ 300) (kr : ∀ v M F T g, eqA Q b c v → EK z ad Q N m sz b pb F T g M → Fp (.inl (some (.int v))) M) : ∀ (q i : Nat), i + q = c → ∀ (M : gH) (F T : Nat → Nat → Int32) (g : Nat → FlR) (la : Nat), EK z ad Q N m sz b pb F T g M → (la = 0 ∨ (la = 1 ∧ FG (eS Q F T g) (g 1) (zsC Q b c))) → (∀ x, x < i → ¬ (keys Q b c).Perm (keys Q b x)) → G (gzz D s0 (p_, l, e_, R_, s_, m_, ar_, be_, me_, c_) rkC Fp 6) 43 [(0, .ref (ad 0 0)), (1, .int (nI c)), (2, .ref (ad 12 c)), (3, .int (nI la)), (4, .int (nI i))] [] M cl sl := by
  have hb := hWF.wb.1
  intro q
  induction q with
  | zero =>
    intro i hi M F T g la hE hla hlt
    refine ri_iload h d_ST_equalTo_43 rfl ?_
    refine ri_iload_n h d_ST_equalTo_45 rfl ?_
    first | refine ri_icmpN_ge h 121 d_ST_equalTo_46 (by decide) (by omega) (by omega) (fun c_46 => ?_) (fun c_46 => ?_) | refine ri_icmp_ge h 121 d_ST_equalTo_46 (by decide) (fun c_46 => ?_) (fun c_46 => ?_)
    · refine ri_iconst h (-1) d_ST_equalTo_121 rfl ?_
      refine ri_ireturn h d_ST_equalTo_122 (by first | (dsimp only [rk]; omega) | omega | exact Nat.le_of_ble_eq_true rfl) (by first | (dsimp only [rk]; omega) | omega | exact Nat.le_of_ble_eq_true rfl) ?_
      exact kr (-1) M F T g (Or.inr ⟨rfl, fun x hx => hlt x (by omega)⟩) hE
    · omega
  | succ q ih =>
    intro i hi M F T g la hE hla hlt
    have hiC : i < Q.nC := by omega
    have hnc := hn c (Nat.le_refl _)
    have hni := hn i (by omega)
    have d1 := (hdn c hc).1
    have d2 := (hdn i hiC).1
    have hS := hE.1
    have hW : WB (msQ (eS Q F T g) m sz b pb) := hWF.wb
    have hlt' : ¬ (keys Q b c).Perm (keys Q b i) → ∀ x, x < i + 1 → ¬ (keys Q b c).Perm (keys Q b x) := fun hp x hx => by
      by_cases e : x = i
      · subst e; exact hp
      · exact hlt x (by omega)
    refine ri_iload h d_ST_equalTo_43 rfl ?_
    refine ri_iload_n h d_ST_equalTo_45 rfl ?_
    first | refine ri_icmpN_ge h 121 d_ST_equalTo_46 (by decide) (by omega) (by omega) (fun c_46 => ?_) (fun c_46 => ?_) | refine ri_icmp_ge h 121 d_ST_equalTo_46 (by decide) (fun c_46 => ?_) (fun c_46 => ?_)
    · omega
    refine ri_aload_n h d_ST_equalTo_49 rfl ?_
    refine ri_get h d_ST_equalTo_50 fl_ST_10 (by first | assumption | exact hS.st | exact gup_s) (by rfl) ?_
    refine ri_iload h d_ST_equalTo_53 rfl ?_
    refine ri_cVv_1 (r := (gR7, gT7, 3)) h d_ST_equalTo_55 cv_ST_138 (by first | exact hS.lcO | exact hS.lsO | exact hS.lpO | exact hS.cesO (by first | assumption | omega) | exact hS.cepO (by first | assumption | omega) | exact ⟨_, (by first | assumption | exact hS.st | exact hS.mo | exact hS.out | exact hS.sb | exact hS.ce (by first | assumption | omega) | exact hS.ceb (by first | assumption | omega) | exact hS.sh (by first | assumption | omega) | exact hS.shb (by first | assumption | omega) | exact hS.pl (by first | assumption | omega) | exact hS.plb (by first | assumption | omega) | exact hS.fl (by first | assumption | omega) | exact gup_s | (refine gup_t (by assumption) ?_; first | assumption | exact gup_s | (refine gup_t (by assumption) ?_; first | assumption | exact gup_s | (refine gup_t (by assumption) ?_; first | assumption | exact gup_s))))⟩) rfl (by first | exact k_get_lc h0 hS hW (by first | assumption | omega) | exact k_get_ls h0 hS hW (by first | assumption | omega) | exact k_get_lp h0 hS hW (by first | assumption | omega) | exact k_get_ces h0 hS hW (by first | assumption | omega) (by first | assumption | omega) | exact k_get_cep h0 hS hW (by first | assumption | omega) (by first | assumption | omega)) (by first | (dsimp only [rk]; omega) | omega | exact Nat.le_of_ble_eq_true rfl) (by first | (dsimp only [rk]; omega) | omega | exact Nat.le_of_ble_eq_true rfl) (by first | (dsimp only [rk]; omega) | omega | exact Nat.le_of_ble_eq_true rfl) (by first | (dsimp only [rk]; omega) | omega | exact Nat.le_of_ble_eq_true rfl) (by first | (dsimp only [rk]; omega) | omega | exact Nat.le_of_ble_eq_true rfl) ?_
    refine ri_cast (r := (gR1, gT1, 6)) h d_ST_equalTo_58 (by first | assumption | exact hS.st | exact hS.mo | exact hS.out | exact hS.sb | exact hS.ce (by first | assumption | omega) | exact hS.ceb (by first | assumption | omega) | exact hS.sh (by first | assumption | omega) | exact hS.shb (by first | assumption | omega) | exact hS.pl (by first | assumption | omega) | exact hS.plb (by first | assumption | omega) | exact hS.fl (by first | assumption | omega) | exact gup_s | (refine gup_t (by assumption) ?_; first | assumption | exact gup_s | (refine gup_t (by assumption) ?_; first | assumption | exact gup_s | (refine gup_t (by assumption) ?_; first | assumption | exact gup_s)))) rfl (by decide +kernel) (by decide +kernel) ?_
    refine ri_astore h d_ST_equalTo_61 (by first | (dsimp only [rk]; omega) | omega | exact Nat.le_of_ble_eq_true rfl) ?_
    refine ri_aload_n h d_ST_equalTo_63 rfl ?_
    refine ri_aload h d_ST_equalTo_64 rfl ?_
    by_cases hz : sSz ((((Q.ce c).set_meas (m c)).set_size (sz c)).set_bx (b c)) ((((Q.ce i).set_meas (m i)).set_size (sz i)).set_bx (b i))
    · refine ri_cSv_2 h d_ST_equalTo_66 cs_ST_202 (k_sameSize (bb := nI 1) h0 hS hc hiC rfl rfl (show sz c ≤ 5000 by omega) (show sz i ≤ 5000 by omega) (Or.inl ⟨rfl, hz⟩)) (by first | (dsimp only [rk]; omega) | omega | exact Nat.le_of_ble_eq_true rfl) (by first | (dsimp only [rk]; omega) | omega | exact Nat.le_of_ble_eq_true rfl) (by first | (dsimp only [rk]; omega) | omega | exact Nat.le_of_ble_eq_true rfl) (by first | (dsimp only [rk]; omega) | omega | exact Nat.le_of_ble_eq_true rfl) (by first | (dsimp only [rk]; omega) | omega | exact Nat.le_of_ble_eq_true rfl) ?_
      have CM : ∀ (M : gH) (F T : Nat → Nat → Int32) (g : Nat → FlR), EK z ad Q N m sz b pb F T g M → FG (eS Q F T g) (g 1) (zsC Q b c) → G (gzz D s0 (p_, l, e_, R_, s_, m_, ar_, be_, me_, c_) rkC Fp 6) 89 [(0, .ref (ad 0 0)), (1, .int (nI c)), (2, .ref (ad 12 c)), (3, .int (nI 1)), (4, .int (nI i)), (5, .ref (ad 12 i))] [] M cl sl := fun M F T g hE hf => eq_cmp h0 h hWF hdn hiC hni hcl hsl hE hf (fun hp M F T g hE => kr (nI i) M F T g (Or.inl ⟨i, by omega, rfl, hp, hlt⟩) hE) (fun hp M F T g hE hf => ih (i + 1) (by omega) M F T g 1 hE (Or.inr ⟨rfl, hf⟩) (hlt' hp))
      first | refine ri_ifB_ne h 75 d_ST_equalTo_69 (by decide) (fun c_69 => ?_) (fun c_69 => ?_) | refine ri_ifN_ne h 75 d_ST_equalTo_69 (by decide) (by omega) (fun c_69 => ?_) (fun c_69 => ?_) | refine ri_if_ne h 75 d_ST_equalTo_69 (by decide) (fun c_69 => ?_) (fun c_69 => ?_)
      · rcases hla with rfl | ⟨rfl, hf⟩
        · refine ri_iload_n h d_ST_equalTo_75 rfl ?_
          first | refine ri_ifB_ne h 89 d_ST_equalTo_76 (by decide) (fun c_76 => ?_) (fun c_76 => ?_) | refine ri_ifN_ne h 89 d_ST_equalTo_76 (by decide) (by omega) (fun c_76 => ?_) (fun c_76 => ?_) | refine ri_if_ne h 89 d_ST_equalTo_76 (by decide) (fun c_76 => ?_) (fun c_76 => ?_)
          · exact absurd rfl c_76
          obtain ⟨-, hO, hg0, hgs⟩ := hE
          refine ri_aload_n h d_ST_equalTo_79 rfl ?_
          refine ri_get h d_ST_equalTo_80 fl_ST_29 (by first | assumption | exact hS.st | exact gup_s) (by rfl) ?_
          refine ri_aload_n h d_ST_equalTo_83 rfl ?_
          refine ri_dV0_1 (r := (gR2, gT2, 11)) h d_ST_equalTo_84 cv_ST_205 (by first | exact hS.lcO | exact hS.lsO | exact hS.lpO | exact hS.cesO (by first | assumption | omega) | exact hS.cepO (by first | assumption | omega) | exact ⟨_, (by first | assumption | exact hS.st | exact hS.mo | exact hS.out | exact hS.sb | exact hS.ce (by first | assumption | omega) | exact hS.ceb (by first | assumption | omega) | exact hS.sh (by first | assumption | omega) | exact hS.shb (by first | assumption | omega) | exact hS.pl (by first | assumption | omega) | exact hS.plb (by first | assumption | omega) | exact hS.fl (by first | assumption | omega) | exact gup_s | (refine gup_t (by assumption) ?_; first | assumption | exact gup_s | (refine gup_t (by assumption) ?_; first | assumption | exact gup_s | (refine gup_t (by assumption) ?_; first | assumption | exact gup_s))))⟩) rfl (k_layZ h0 hWF (j := 1) (by decide) hS hO hdn (hgs 1 (by decide)) hc hnc) (by first | (dsimp only [rk]; omega) | omega | exact Nat.le_of_ble_eq_true rfl) (by first | (dsimp only [rk]; omega) | omega | exact Nat.le_of_ble_eq_true rfl) (by first | (dsimp only [rk]; omega) | omega | exact Nat.le_of_ble_eq_true rfl) (by first | (dsimp only [rk]; omega) | omega | exact Nat.le_of_ble_eq_true rfl) (by first | (dsimp only [rk]; omega) | omega | exact Nat.le_of_ble_eq_true rfl) (fun M hS => ?_)
          obtain ⟨F', T', r, hS, hO', hT', hf⟩ := hS
          refine ri_iconstN h 1 d_ST_equalTo_87 rfl ?_
          refine ri_istore_n h d_ST_equalTo_88 (by first | (dsimp only [rk]; omega) | omega | exact Nat.le_of_ble_eq_true rfl) ?_
          refine ri_ls [(0, .ref (ad 0 0)), (1, .int (nI c)), (2, .ref (ad 12 c)), (3, .int (nI 1)), (4, .int (nI i)), (5, .ref (ad 12 i))] ⟨rfl, rfl, rfl, rfl, rfl, rfl, trivial⟩ (CM M F' T' (va_up g 1 r) ⟨hS, hO', (va_up_n (g := g) (v := r) (show (0 : Nat) ≠ 1 by decide)).trans hg0, gs_up hgs hf.2.2.2.2.2⟩ ?_)
          rw [va_up_s]
          exact hf
        · refine ri_iload_n h d_ST_equalTo_75 rfl ?_
          first | refine ri_ifB_ne h 89 d_ST_equalTo_76 (by decide) (fun c_76 => ?_) (fun c_76 => ?_) | refine ri_ifN_ne h 89 d_ST_equalTo_76 (by decide) (by omega) (fun c_76 => ?_) (fun c_76 => ?_) | refine ri_if_ne h 89 d_ST_equalTo_76 (by decide) (fun c_76 => ?_) (fun c_76 => ?_)
          · exact ri_ls [(0, .ref (ad 0 0)), (1, .int (nI c)), (2, .ref (ad 12 c)), (3, .int (nI 1)), (4, .int (nI i)), (5, .ref (ad 12 i))] ⟨rfl, rfl, rfl, rfl, rfl, rfl, trivial⟩ (CM M F T g hE hf)
          · exact absurd c_76 (by decide)
      · exact absurd c_69 (by decide)
    · refine ri_cSv_2 h d_ST_equalTo_66 cs_ST_202 (k_sameSize (bb := nI 0) h0 hS hc hiC rfl rfl (show sz c ≤ 5000 by omega) (show sz i ≤ 5000 by omega) (Or.inr ⟨rfl, hz⟩)) (by first | (dsimp only [rk]; omega) | omega | exact Nat.le_of_ble_eq_true rfl) (by first | (dsimp only [rk]; omega) | omega | exact Nat.le_of_ble_eq_true rfl) (by first | (dsimp only [rk]; omega) | omega | exact Nat.le_of_ble_eq_true rfl) (by first | (dsimp only [rk]; omega) | omega | exact Nat.le_of_ble_eq_true rfl) (by first | (dsimp only [rk]; omega) | omega | exact Nat.le_of_ble_eq_true rfl) ?_
      first | refine ri_ifB_ne h 75 d_ST_equalTo_69 (by decide) (fun c_69 => ?_) (fun c_69 => ?_) | refine ri_ifN_ne h 75 d_ST_equalTo_69 (by decide) (by omega) (fun c_69 => ?_) (fun c_69 => ?_) | refine ri_if_ne h 75 d_ST_equalTo_69 (by decide) (fun c_69 => ?_) (fun c_69 => ?_)
      · exact absurd rfl c_69
      · refine ri_goto h 115 d_ST_equalTo_72 (by decide) ?_
        first | refine ri_iincN h d_ST_equalTo_115 rfl (by first | (dsimp only [rk]; omega) | omega | exact Nat.le_of_ble_eq_true rfl) ?_ | refine ri_iinc h _ d_ST_equalTo_115 rfl rfl (by first | (dsimp only [rk]; omega) | omega | exact Nat.le_of_ble_eq_true rfl) ?_
        refine ri_goto h 43 d_ST_equalTo_118 (by decide) ?_
        exact ri_ls [(0, .ref (ad 0 0)), (1, .int (nI c)), (2, .ref (ad 12 c)), (3, .int (nI la)), (4, .int (nI (i + 1)))] ⟨rfl, rfl, rfl, rfl, rfl, trivial⟩ (ih (i + 1) (by omega) M F T g la hE hla (hlt' (fun hp => hz (size_no hWF hdn hc hiC hnc hni hp))))
theorem eS_self : eS Q (fun s => (Q.sh s).fi) (fun s => (Q.sh s).st) Q.fl = Q := rfl
theorem k_equalTo_no2 (h0 : g_0 l D s0) (hS : HS z ad Q N M) (hWF : WF Q) (hc : c < Q.nC) (hn : ¬ ∀ x, x ≤ c → SZ Q (-1) x ≤ 3000) : Ct l D s0 y_ST_equalTo (Cond.code y_ST_equalTo b_ST_equalTo 6 (some .int)) rkC [.ref (ad 0 0), .int (nI c)] M (fEM z ad Q N eUO) := by
  have hW := hWF.wb
  refine Ct.of h0 (by decide +kernel) rfl fun X hX h => ?_
  obtain ⟨p_, l', e_, R_, s_, m_, ar_, be_, me_, c_⟩ := X
  obtain rfl : l' = l := hX
  refine ri_aload_n h d_ST_equalTo_0 rfl ?_
  refine ri_iload_n h d_ST_equalTo_1 rfl ?_
  refine ri_cVv_1 (r := (gR5, gT5, 8)) h d_ST_equalTo_2 cv_ST_74 (by first | exact hS.lcO | exact hS.lsO | exact hS.lpO | exact hS.cesO (by first | assumption | omega) | exact hS.cepO (by first | assumption | omega) | exact ⟨_, (by first | assumption | exact hS.st | exact hS.mo | exact hS.out | exact hS.sb | exact hS.ce (by first | assumption | omega) | exact hS.ceb (by first | assumption | omega) | exact hS.sh (by first | assumption | omega) | exact hS.shb (by first | assumption | omega) | exact hS.pl (by first | assumption | omega) | exact hS.plb (by first | assumption | omega) | exact hS.fl (by first | assumption | omega) | exact gup_s | (refine gup_t (by assumption) ?_; first | assumption | exact gup_s | (refine gup_t (by assumption) ?_; first | assumption | exact gup_s | (refine gup_t (by assumption) ?_; first | assumption | exact gup_s))))⟩) rfl (k_known_ok h0 hS hW hc) (by first | (dsimp only [rk]; omega) | omega | exact Nat.le_of_ble_eq_true rfl) (by first | (dsimp only [rk]; omega) | omega | exact Nat.le_of_ble_eq_true rfl) (by first | (dsimp only [rk]; omega) | omega | exact Nat.le_of_ble_eq_true rfl) (by first | (dsimp only [rk]; omega) | omega | exact Nat.le_of_ble_eq_true rfl) (by first | (dsimp only [rk]; omega) | omega | exact Nat.le_of_ble_eq_true rfl) ?_
  refine ri_astore_n h d_ST_equalTo_5 (by first | (dsimp only [rk]; omega) | omega | exact Nat.le_of_ble_eq_true rfl) ?_
  refine ri_aload_n h d_ST_equalTo_6 rfl ?_
  refine ri_iconst h (-1) d_ST_equalTo_7 rfl ?_
  refine ri_dV0_1 (r := (gR5, gT5, 8)) h d_ST_equalTo_8 cv_ST_160 (by first | exact hS.lcO | exact hS.lsO | exact hS.lpO | exact hS.cesO (by first | assumption | omega) | exact hS.cepO (by first | assumption | omega) | exact ⟨_, (by first | assumption | exact hS.st | exact hS.mo | exact hS.out | exact hS.sb | exact hS.ce (by first | assumption | omega) | exact hS.ceb (by first | assumption | omega) | exact hS.sh (by first | assumption | omega) | exact hS.shb (by first | assumption | omega) | exact hS.pl (by first | assumption | omega) | exact hS.plb (by first | assumption | omega) | exact hS.fl (by first | assumption | omega) | exact gup_s | (refine gup_t (by assumption) ?_; first | assumption | exact gup_s | (refine gup_t (by assumption) ?_; first | assumption | exact gup_s | (refine gup_t (by assumption) ?_; first | assumption | exact gup_s))))⟩) rfl (k_measureCells h0 hW hWF.wl hWF.wx hWF.me hS) (by first | (dsimp only [rk]; omega) | omega | exact Nat.le_of_ble_eq_true rfl) (by first | (dsimp only [rk]; omega) | omega | exact Nat.le_of_ble_eq_true rfl) (by first | (dsimp only [rk]; omega) | omega | exact Nat.le_of_ble_eq_true rfl) (by first | (dsimp only [rk]; omega) | omega | exact Nat.le_of_ble_eq_true rfl) (by first | (dsimp only [rk]; omega) | omega | exact Nat.le_of_ble_eq_true rfl) (fun M hS => ?_)
  obtain ⟨m, sz, b, pb, hS, h01, hdn⟩ := hS
  refine ri_iconstN h 0 d_ST_equalTo_11 rfl ?_
  refine ri_istore_n h d_ST_equalTo_12 (by first | (dsimp only [rk]; omega) | omega | exact Nat.le_of_ble_eq_true rfl) ?_
  exact ri_ls [(0, .ref (ad 0 0)), (1, .int (nI c)), (2, .ref (ad 12 c)), (3, .int (nI 0))] ⟨rfl, rfl, rfl, rfl, trivial⟩ (eq_l1 h0 h hW hS hdn hc (fun _ => ⟨rfl, m, sz, b, pb, hS, h01⟩) (fun q => absurd q hn) (c + 1) 0 (by omega) _ _ (by decide) (by decide) (fun x hx => by omega))
def eqP (z : Nat) (ad : gA) (Q : CS) (N : MS) (c : Nat) : gR → gH → Prop := fun r M' => ∃ (v : Int32) (m : Nat → Int32) (sz : Nat → Nat) (b pb : Nat → BxR) (F T : Nat → Nat → Int32) (g : Nat → FlR), r = .inl (some (.int v)) ∧ (∀ x, m x = 0 ∨ m x = 1) ∧ (∀ x, x < Q.nC → dnC Q (-1) sz b x) ∧ eqA Q b c v ∧ EK z ad Q N m sz b pb F T g M'
theorem k_equalTo_ok (h0 : g_0 l D s0) (hS : HS z ad Q N M) (hWF : WF Q) (hc : c < Q.nC) (hn : ∀ x, x ≤ c → SZ Q (-1) x ≤ 3000) : Ct l D s0 y_ST_equalTo (Cond.code y_ST_equalTo b_ST_equalTo 6 (some .int)) rkC [.ref (ad 0 0), .int (nI c)] M (eqP z ad Q N c) := by
  have hW := hWF.wb
  refine Ct.of h0 (by decide +kernel) rfl fun X hX h => ?_
  obtain ⟨p_, l', e_, R_, s_, m_, ar_, be_, me_, c_⟩ := X
  obtain rfl : l' = l := hX
  refine ri_aload_n h d_ST_equalTo_0 rfl ?_
  refine ri_iload_n h d_ST_equalTo_1 rfl ?_
  refine ri_cVv_1 (r := (gR5, gT5, 8)) h d_ST_equalTo_2 cv_ST_74 (by first | exact hS.lcO | exact hS.lsO | exact hS.lpO | exact hS.cesO (by first | assumption | omega) | exact hS.cepO (by first | assumption | omega) | exact ⟨_, (by first | assumption | exact hS.st | exact hS.mo | exact hS.out | exact hS.sb | exact hS.ce (by first | assumption | omega) | exact hS.ceb (by first | assumption | omega) | exact hS.sh (by first | assumption | omega) | exact hS.shb (by first | assumption | omega) | exact hS.pl (by first | assumption | omega) | exact hS.plb (by first | assumption | omega) | exact hS.fl (by first | assumption | omega) | exact gup_s | (refine gup_t (by assumption) ?_; first | assumption | exact gup_s | (refine gup_t (by assumption) ?_; first | assumption | exact gup_s | (refine gup_t (by assumption) ?_; first | assumption | exact gup_s))))⟩) rfl (k_known_ok h0 hS hW hc) (by first | (dsimp only [rk]; omega) | omega | exact Nat.le_of_ble_eq_true rfl) (by first | (dsimp only [rk]; omega) | omega | exact Nat.le_of_ble_eq_true rfl) (by first | (dsimp only [rk]; omega) | omega | exact Nat.le_of_ble_eq_true rfl) (by first | (dsimp only [rk]; omega) | omega | exact Nat.le_of_ble_eq_true rfl) (by first | (dsimp only [rk]; omega) | omega | exact Nat.le_of_ble_eq_true rfl) ?_
  refine ri_astore_n h d_ST_equalTo_5 (by first | (dsimp only [rk]; omega) | omega | exact Nat.le_of_ble_eq_true rfl) ?_
  refine ri_aload_n h d_ST_equalTo_6 rfl ?_
  refine ri_iconst h (-1) d_ST_equalTo_7 rfl ?_
  refine ri_dV0_1 (r := (gR5, gT5, 8)) h d_ST_equalTo_8 cv_ST_160 (by first | exact hS.lcO | exact hS.lsO | exact hS.lpO | exact hS.cesO (by first | assumption | omega) | exact hS.cepO (by first | assumption | omega) | exact ⟨_, (by first | assumption | exact hS.st | exact hS.mo | exact hS.out | exact hS.sb | exact hS.ce (by first | assumption | omega) | exact hS.ceb (by first | assumption | omega) | exact hS.sh (by first | assumption | omega) | exact hS.shb (by first | assumption | omega) | exact hS.pl (by first | assumption | omega) | exact hS.plb (by first | assumption | omega) | exact hS.fl (by first | assumption | omega) | exact gup_s | (refine gup_t (by assumption) ?_; first | assumption | exact gup_s | (refine gup_t (by assumption) ?_; first | assumption | exact gup_s | (refine gup_t (by assumption) ?_; first | assumption | exact gup_s))))⟩) rfl (k_measureCells h0 hW hWF.wl hWF.wx hWF.me hS) (by first | (dsimp only [rk]; omega) | omega | exact Nat.le_of_ble_eq_true rfl) (by first | (dsimp only [rk]; omega) | omega | exact Nat.le_of_ble_eq_true rfl) (by first | (dsimp only [rk]; omega) | omega | exact Nat.le_of_ble_eq_true rfl) (by first | (dsimp only [rk]; omega) | omega | exact Nat.le_of_ble_eq_true rfl) (by first | (dsimp only [rk]; omega) | omega | exact Nat.le_of_ble_eq_true rfl) (fun M hS => ?_)
  obtain ⟨m, sz, b, pb, hS, h01, hdn⟩ := hS
  refine ri_iconstN h 0 d_ST_equalTo_11 rfl ?_
  refine ri_istore_n h d_ST_equalTo_12 (by first | (dsimp only [rk]; omega) | omega | exact Nat.le_of_ble_eq_true rfl) ?_
  refine ri_ls [(0, .ref (ad 0 0)), (1, .int (nI c)), (2, .ref (ad 12 c)), (3, .int (nI 0))] ⟨rfl, rfl, rfl, rfl, trivial⟩ (eq_l1 h0 h hW hS hdn hc (fun ⟨x, q1, q2⟩ => absurd (hn x q1) q2) (fun _ cl sl hcl hsl => ?_) (c + 1) 0 (by omega) _ _ (by decide) (by decide) (fun x hx => by omega))
  refine ri_iconstN h 0 d_ST_equalTo_38 rfl ?_
  refine ri_istore_n h d_ST_equalTo_39 (by first | (dsimp only [rk]; omega) | omega | exact Nat.le_of_ble_eq_true rfl) ?_
  refine ri_iconstN h 0 d_ST_equalTo_40 rfl ?_
  refine ri_istore h d_ST_equalTo_41 (by first | (dsimp only [rk]; omega) | omega | exact Nat.le_of_ble_eq_true rfl) ?_
  refine ri_ls [(0, .ref (ad 0 0)), (1, .int (nI c)), (2, .ref (ad 12 c)), (3, .int (nI 0)), (4, .int (nI 0))] ⟨rfl, rfl, rfl, rfl, rfl, trivial⟩ (eq_l2 h0 h hWF hdn hc hn hcl hsl (fun v M F T g hv hE => ⟨v, m, sz, b, pb, F, T, g, rfl, h01, hdn, hv, hE⟩) c 0 (by omega) M (fun s => (Q.sh s).fi) (fun s => (Q.sh s).st) Q.fl 0 ⟨?_, ?_, rfl, hWF.wt.2.1⟩ (Or.inl rfl) (fun x hx => by omega))
  · rw [eS_self]; exact hS
  · exact hWF.oo
end EQM
