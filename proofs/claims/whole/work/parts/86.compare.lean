/-! compare and markOf -/
def cIt (r : FlR) (i : Nat) (w : It) : Prop := r.sh i = some w.1 ∧ r.tu i = w.2.1 ∧ r.xs i = w.2.2.1 ∧ r.ys i = w.2.2.2
/-- a flat shape whose order is settled -/
def itm (Q : CS) (w : It) : Prop := w.1 < Q.nS ∧ w.2.1 < 8 ∧ (Q.sh w.1).cnt ≤ 24 ∧ 0 < (Q.sh w.1).cnt ∧ ¬ (Q.sh w.1).st w.2.1 = 0 ∧ OrdOk (Q.sh w.1) w.2.1 ∧ Big w.2.2.1 ∧ Big w.2.2.2 ∧ WPt (Q.sh w.1)
theorem FX_i {Q : CS} {r : FlR} {i k : Nat} {w : It} (e : cIt r i w) (ht : w.2.1 < 8) (hX : Big w.2.2.1) (hY : Big w.2.2.2) (hn : nearB ((Q.sh w.1).xs k) ∧ nearB ((Q.sh w.1).ys k)) : (FX Q.sh r i k).toInt = w.2.2.1.toInt + nX (Q.sh w.1) w.2.1 k ∧ (FY Q.sh r i k).toInt = w.2.2.2.toInt + nY (Q.sh w.1) w.2.1 k := by
  have f := flat_i hn ht hX hY
  have n1 := near_i hn.1
  have n2 := near_i hn.2
  have e' := t_tX ht (x := (Q.sh w.1).xs k) (y := (Q.sh w.1).ys k) (by omega) (by omega) (by omega) (by omega)
  obtain ⟨e1, e2, e3, e4⟩ := e
  have es : r.s i = w.1 := by show (r.sh i).getD 0 = _; rw [e1]; rfl
  unfold FX FY nX nY
  rw [es, e2, e3, e4, e'.1, e'.2]
  exact ⟨f.1, f.2.1⟩
theorem FX_k {Q : CS} {r : FlR} {i k f : Nat} {w : It} (e : cIt r i w) (o : itm Q w) (hm : minO (Q.sh w.1) w.2.1 f ((Q.sh w.1).st w.2.1)) (hk : k < (Q.sh w.1).cnt) : (FX Q.sh r i (oix (Q.sh w.1).cnt f ((Q.sh w.1).st w.2.1) k)).toInt = w.2.2.1.toInt + lkX (Q.sh w.1) w.2.1 k ∧ (FY Q.sh r i (oix (Q.sh w.1).cnt f ((Q.sh w.1).st w.2.1) k)).toInt = w.2.2.2.toInt + lkY (Q.sh w.1) w.2.1 k := by
  obtain ⟨o1, o2, o3, o4, o5, o6, o7, o8, o9⟩ := o
  have l := lk_of hm k hk
  rw [l.1, l.2]
  exact FX_i e o2 o7 o8 (o9.1 _ (oix_lt o4))
theorem icmp_i (x y : Int32) : icmp x y = if x.toInt < y.toInt then -1 else if x.toInt = y.toInt then 0 else 1 := by
  unfold icmp
  by_cases h : x < y
  · rw [if_pos h, if_pos (Int32.lt_iff_toInt_lt.mp h)]
  · rw [if_neg h, if_neg (fun q => h (Int32.lt_iff_toInt_lt.mpr q))]
    by_cases e : x = y
    · rw [if_pos e, if_pos (by rw [e])]
    · rw [if_neg e, if_neg (fun q => e (Int32.toInt.inj q))]
theorem jcmp_i (x y : Int64) : jcmp x y = if x.toInt < y.toInt then -1 else if x.toInt = y.toInt then 0 else 1 := by
  unfold jcmp
  by_cases h : x < y
  · rw [if_pos h, if_pos (Int64.lt_iff_toInt_lt.mp h)]
  · rw [if_neg h, if_neg (fun q => h (Int64.lt_iff_toInt_lt.mpr q))]
    by_cases e : x = y
    · rw [if_pos e, if_pos (by rw [e])]
    · rw [if_neg e, if_neg (fun q => e (Int64.toInt.inj q))]
theorem lcmp_e {a : Int} {as bs : List Int} : lcmp (a :: as) (a :: bs) = lcmp as bs := by rw [lcmp_c, if_neg (Int.lt_irrefl a), if_pos rfl]
theorem lcmp_d {a b : Int} {as bs : List Int} (c : Int32) (h : c = if a < b then -1 else if a = b then 0 else 1) : lcmp (a :: as) (b :: bs) = if c ≠ 0 then c else lcmp as bs := by
  rcases Int.lt_trichotomy a b with q | rfl | q
  · have hc : c = -1 := by rw [h, if_pos q]
    rw [lcmp_c, if_pos q, hc]; rfl
  · have hc : c = 0 := by rw [h, if_neg (Int.lt_irrefl a), if_pos rfl]
    rw [lcmp_e, hc]; rfl
  · have hc : c = 1 := by rw [h, if_neg (by omega), if_neg (by omega)]
    rw [lcmp_c, if_neg (by omega), if_neg (by omega), hc]; rfl
theorem kd_c (c1 c2 c3 c4 L : Int32) : (¬ (if c1 ≠ 0 then c1 else if c2 ≠ 0 then c2 else if c3 ≠ 0 then c3 else c4) = 0 ∧ (if c1 ≠ 0 then c1 else if c2 ≠ 0 then c2 else if c3 ≠ 0 then c3 else if c4 ≠ 0 then c4 else L) = (if c1 ≠ 0 then c1 else if c2 ≠ 0 then c2 else if c3 ≠ 0 then c3 else c4)) ∨ ((if c1 ≠ 0 then c1 else if c2 ≠ 0 then c2 else if c3 ≠ 0 then c3 else c4) = 0 ∧ c4 = 0 ∧ (if c1 ≠ 0 then c1 else if c2 ≠ 0 then c2 else if c3 ≠ 0 then c3 else if c4 ≠ 0 then c4 else L) = L) := by
  by_cases h1 : c1 = 0 <;> by_cases h2 : c2 = 0 <;> by_cases h3 : c3 = 0 <;> by_cases h4 : c4 = 0 <;> simp [h1, h2, h3, h4]
abbrev kcmp (r r' : ShR) : Int32 := if icmp r.layer r'.layer ≠ 0 then icmp r.layer r'.layer else if jcmp r.w r'.w ≠ 0 then jcmp r.w r'.w else if icmp r.ends r'.ends ≠ 0 then icmp r.ends r'.ends else icmp (nI r.cnt) (nI r'.cnt)
theorem key_d {Q : CS} {w1 w2 : It} (h1 : (Q.sh w1.1).cnt ≤ 24) (h2 : (Q.sh w2.1).cnt ≤ 24) : (¬ kcmp (Q.sh w1.1) (Q.sh w2.1) = 0 ∧ lcmp (key Q w1) (key Q w2) = kcmp (Q.sh w1.1) (Q.sh w2.1)) ∨ (kcmp (Q.sh w1.1) (Q.sh w2.1) = 0 ∧ (Q.sh w1.1).cnt = (Q.sh w2.1).cnt ∧ lcmp (key Q w1) (key Q w2) = lcmp (rowF (Q.sh w1.1).cnt 0 (fun k => w1.2.2.1.toInt + lkX (Q.sh w1.1) w1.2.1 k) (fun k => w1.2.2.2.toInt + lkY (Q.sh w1.1) w1.2.1 k)) (rowF (Q.sh w1.1).cnt 0 (fun k => w2.2.2.1.toInt + lkX (Q.sh w2.1) w2.2.1 k) (fun k => w2.2.2.2.toInt + lkY (Q.sh w2.1) w2.2.1 k))) := by
  unfold key keyR
  rw [lcmp_d _ (icmp_i _ _), lcmp_d _ (jcmp_i _ _), lcmp_d _ (icmp_i _ _), lcmp_d (icmp (nI (Q.sh w1.1).cnt) (nI (Q.sh w2.1).cnt)) (by rw [icmp_i, nI_toInt (by omega), nI_toInt (by omega)])]
  rcases kd_c (icmp (Q.sh w1.1).layer (Q.sh w2.1).layer) (jcmp (Q.sh w1.1).w (Q.sh w2.1).w) (icmp (Q.sh w1.1).ends (Q.sh w2.1).ends) (icmp (nI (Q.sh w1.1).cnt) (nI (Q.sh w2.1).cnt)) (lcmp (rowF (Q.sh w1.1).cnt 0 (fun k => w1.2.2.1.toInt + lkX (Q.sh w1.1) w1.2.1 k) (fun k => w1.2.2.2.toInt + lkY (Q.sh w1.1) w1.2.1 k)) (rowF (Q.sh w2.1).cnt 0 (fun k => w2.2.2.1.toInt + lkX (Q.sh w2.1) w2.2.1 k) (fun k => w2.2.2.2.toInt + lkY (Q.sh w2.1) w2.2.1 k))) with ⟨a, b⟩ | ⟨a, q4, b⟩
  · exact Or.inl ⟨a, b⟩
  · have hc : (Q.sh w1.1).cnt = (Q.sh w2.1).cnt := by
      rw [icmp_i, nI_toInt (by omega), nI_toInt (by omega)] at q4
      split at q4
      · exact absurd q4 (by decide)
      · split at q4
        · omega
        · exact absurd q4 (by decide)
    refine Or.inr ⟨a, hc, b.trans ?_⟩
    rw [← hc]
theorem key_s {Q : CS} {w1 w2 : It} (h0 : 0 < (Q.sh w1.1).cnt) (hs : w1.1 = w2.1) (ht : w1.2.1 = w2.2.1) : lcmp (key Q w1) (key Q w2) = if ¬ w1.2.2.1 = w2.2.2.1 then jcmp w1.2.2.1 w2.2.2.1 else jcmp w1.2.2.2 w2.2.2.2 := by
  obtain ⟨s1, t1, X1, Y1⟩ := w1
  obtain ⟨s2, t2, X2, Y2⟩ := w2
  have hs : s1 = s2 := hs
  have ht : t1 = t2 := ht
  subst hs
  subst ht
  by_cases q : X1 = X2
  · subst q
    rw [if_neg (fun h => h rfl)]
    by_cases p : Y1 = Y2
    · subst p
      rw [(lcmp_0 _ _).mpr rfl, jcmp_i, if_neg (Int.lt_irrefl _), if_pos rfl]
    · unfold key keyR
      rw [lcmp_e, lcmp_e, lcmp_e, lcmp_e]
      have h0 : 0 < (Q.sh s1).cnt := h0
      obtain ⟨m, hm⟩ : ∃ m, (Q.sh s1).cnt = m + 1 := ⟨(Q.sh s1).cnt - 1, by omega⟩
      dsimp only
      rw [hm]
      unfold rowF
      rw [lcmp_e, lcmp_c, jcmp_i]
      have p : ¬ Y1.toInt = Y2.toInt := fun e => p (Int64.toInt.inj e)
      by_cases g : Y1.toInt < Y2.toInt
      · rw [if_pos g]
        exact if_pos (show Y1.toInt + lkY (Q.sh s1) t1 0 < Y2.toInt + lkY (Q.sh s1) t1 0 by omega)
      · rw [if_neg g, if_neg p]
        exact (if_neg (show ¬ Y1.toInt + lkY (Q.sh s1) t1 0 < Y2.toInt + lkY (Q.sh s1) t1 0 by omega)).trans (if_neg (show ¬ Y1.toInt + lkY (Q.sh s1) t1 0 = Y2.toInt + lkY (Q.sh s1) t1 0 by omega))
  · rw [if_pos q]
    unfold key keyR
    rw [lcmp_e, lcmp_e, lcmp_e, lcmp_e]
    have h0 : 0 < (Q.sh s1).cnt := h0
    obtain ⟨m, hm⟩ : ∃ m, (Q.sh s1).cnt = m + 1 := ⟨(Q.sh s1).cnt - 1, by omega⟩
    dsimp only
    rw [hm]
    unfold rowF
    rw [lcmp_c, jcmp_i]
    have p : ¬ X1.toInt = X2.toInt := fun e => q (Int64.toInt.inj e)
    by_cases g : X1.toInt < X2.toInt
    · rw [if_pos g]
      exact if_pos (show X1.toInt + lkX (Q.sh s1) t1 0 < X2.toInt + lkX (Q.sh s1) t1 0 by omega)
    · rw [if_neg g, if_neg p]
      exact (if_neg (show ¬ X1.toInt + lkX (Q.sh s1) t1 0 < X2.toInt + lkX (Q.sh s1) t1 0 by omega)).trans (if_neg (show ¬ X1.toInt + lkX (Q.sh s1) t1 0 = X2.toInt + lkX (Q.sh s1) t1 0 by omega))
section CMP
variable {l : Launch} {D : gD} {s0 : State} {M : gH} {z : Nat} {ad : gA} {Q : CS} {N : MS}
theorem k_compare (h0 : g_0 l D s0) (hS : HS z ad Q N M) {j1 j2 i1 i2 : Nat} {w1 w2 : It} (hj1 : j1 < 3) (hj2 : j2 < 3) (hF1 : WFl Q.nS Q.sh (Q.fl j1)) (hF2 : WFl Q.nS Q.sh (Q.fl j2)) (hi1 : i1 < (Q.fl j1).cnt) (hi2 : i2 < (Q.fl j2).cnt) (e1 : cIt (Q.fl j1) i1 w1) (e2 : cIt (Q.fl j2) i2 w2) (o1 : itm Q w1) (o2 : itm Q w2) : Ct l D s0 y_Fl_compare (Cond.code y_Fl_compare b_Fl_compare 10 (some .int)) (rk 2 0 0) [.ref (ad 3 j1), .int (nI i1), .ref (ad 3 j2), .int (nI i2)] M (fR (some (.int (lcmp (key Q w1) (key Q w2)))) M) := by
  have hi31 : i1 < 3000 := Nat.lt_of_lt_of_le hi1 hF1.1
  have hi32 : i2 < 3000 := Nat.lt_of_lt_of_le hi2 hF2.1
  obtain ⟨g1, t1, x1, y1⟩ := id e1
  obtain ⟨g2, t2, x2, y2⟩ := id e2
  obtain ⟨s1, a1, c1, z1, n1, m1, b1, b1', p1⟩ := id o1
  obtain ⟨s2, a2, c2, z2, n2, m2, b2, b2', p2⟩ := id o2
  obtain ⟨f1, fi1, mn1⟩ := m1.min n1
  obtain ⟨f2, fi2, mn2⟩ := m2.min n2
  have st1 := (alw_lt z1 mn1.2.1).2
  have st2 := (alw_lt z2 mn2.2.1).2
  refine Ct.of h0 (by decide +kernel) rfl fun X hX h => ?_
  obtain ⟨p_, l', e_, R_, s_, m_, ar_, be_, me_, c_⟩ := X
  obtain rfl : l' = l := hX
  have JR : ∀ (sg : Int32), sg = lcmp (key Q w1) (key Q w2) → G (gzz D s0 (p_, l', e_, R_, s_, m_, ar_, be_, me_, c_) (rk 2 0 0) (fR (some (.int (lcmp (key Q w1) (key Q w2)))) M) 10) 194 [(0, .ref (ad 3 j1)), (1, .int (nI i1)), (2, .ref (ad 3 j2)), (3, .int (nI i2)), (4, .ref (ad 18 w1.1)), (5, .ref (ad 18 w2.1)), (6, .int sg)] [] M 0 0 := by
    intro sg hsg
    refine ri_iload h d_Fl_compare_194 rfl ?_
    refine ri_ireturn h d_Fl_compare_196 (Nat.le_of_ble_eq_true rfl) (Nat.le_of_ble_eq_true rfl) ?_
    exact ⟨by rw [hsg], rfl⟩
  have JE : ∀ (sg : Int32) (k : Nat), k < 2 ^ 30 → ¬ sg = 0 → sg = lcmp (key Q w1) (key Q w2) → G (gzz D s0 (p_, l', e_, R_, s_, m_, ar_, be_, me_, c_) (rk 2 0 0) (fR (some (.int (lcmp (key Q w1) (key Q w2)))) M) 10) 100 [(0, .ref (ad 3 j1)), (1, .int (nI i1)), (2, .ref (ad 3 j2)), (3, .int (nI i2)), (4, .ref (ad 18 w1.1)), (5, .ref (ad 18 w2.1)), (6, .int sg), (7, .int (nI k))] [] M 0 0 := by
    intro sg k hk h00 hsg
    refine ri_iload h d_Fl_compare_100 rfl ?_
    refine ri_aload h d_Fl_compare_102 rfl ?_
    refine ri_get h d_Fl_compare_104 fl_Fl_119 (by first | assumption | exact hS.sh_of (by first | assumption | omega) (by assumption) | exact hS.sh (by first | assumption | omega) | exact gup_s) (by rfl) ?_
    first | refine ri_icmpN_ge h 194 d_Fl_compare_107 (by decide) (by omega) (by omega) (fun c_107 => ?_) (fun c_107 => ?_) | refine ri_icmp_ge h 194 d_Fl_compare_107 (by decide) (fun c_107 => ?_) (fun c_107 => ?_)
    · exact ri_ls [(0, .ref (ad 3 j1)), (1, .int (nI i1)), (2, .ref (ad 3 j2)), (3, .int (nI i2)), (4, .ref (ad 18 w1.1)), (5, .ref (ad 18 w2.1)), (6, .int sg)] ⟨rfl, rfl, rfl, rfl, rfl, rfl, rfl, trivial⟩ (JR sg hsg)
    · refine ri_iload h d_Fl_compare_110 rfl ?_
      refine ri_if_ne h 194 d_Fl_compare_112 (by decide) (fun c_112 => ?_) (fun c_112 => ?_)
      · exact ri_ls [(0, .ref (ad 3 j1)), (1, .int (nI i1)), (2, .ref (ad 3 j2)), (3, .int (nI i2)), (4, .ref (ad 18 w1.1)), (5, .ref (ad 18 w2.1)), (6, .int sg)] ⟨rfl, rfl, rfl, rfl, rfl, rfl, rfl, trivial⟩ (JR sg hsg)
      · contradiction
  have JL : (Q.sh w1.1).cnt = (Q.sh w2.1).cnt → ∀ (q k : Nat), k + q = (Q.sh w1.1).cnt → lcmp (key Q w1) (key Q w2) = lcmp (rowF q k (fun k => w1.2.2.1.toInt + lkX (Q.sh w1.1) w1.2.1 k) (fun k => w1.2.2.2.toInt + lkY (Q.sh w1.1) w1.2.1 k)) (rowF q k (fun k => w2.2.2.1.toInt + lkX (Q.sh w2.1) w2.2.1 k) (fun k => w2.2.2.2.toInt + lkY (Q.sh w2.1) w2.2.1 k)) → G (gzz D s0 (p_, l', e_, R_, s_, m_, ar_, be_, me_, c_) (rk 2 0 0) (fR (some (.int (lcmp (key Q w1) (key Q w2)))) M) 10) 100 [(0, .ref (ad 3 j1)), (1, .int (nI i1)), (2, .ref (ad 3 j2)), (3, .int (nI i2)), (4, .ref (ad 18 w1.1)), (5, .ref (ad 18 w2.1)), (6, .int 0), (7, .int (nI k))] [] M 0 0 := by
    intro hcc q
    induction q with
    | zero =>
      intro k hk hl
      refine ri_iload h d_Fl_compare_100 rfl ?_
      refine ri_aload h d_Fl_compare_102 rfl ?_
      refine ri_get h d_Fl_compare_104 fl_Fl_119 (by first | assumption | exact hS.sh_of (by first | assumption | omega) (by assumption) | exact hS.sh (by first | assumption | omega) | exact gup_s) (by rfl) ?_
      first | refine ri_icmpN_ge h 194 d_Fl_compare_107 (by decide) (by omega) (by omega) (fun c_107 => ?_) (fun c_107 => ?_) | refine ri_icmp_ge h 194 d_Fl_compare_107 (by decide) (fun c_107 => ?_) (fun c_107 => ?_)
      · exact ri_ls [(0, .ref (ad 3 j1)), (1, .int (nI i1)), (2, .ref (ad 3 j2)), (3, .int (nI i2)), (4, .ref (ad 18 w1.1)), (5, .ref (ad 18 w2.1)), (6, .int 0)] ⟨rfl, rfl, rfl, rfl, rfl, rfl, rfl, trivial⟩ (JR 0 hl.symm)
      · omega
    | succ q ih =>
      intro k hk hl
      have hk1 : k < (Q.sh w1.1).cnt := by omega
      have hk2 : k < (Q.sh w2.1).cnt := by omega
      have q1 : oix (Q.sh w1.1).cnt f1 ((Q.sh w1.1).st w1.2.1) k < 24 := Nat.lt_of_lt_of_le (oix_lt z1) c1
      have q2 : oix (Q.sh w2.1).cnt f2 ((Q.sh w2.1).st w2.2.1) k < 24 := Nat.lt_of_lt_of_le (oix_lt z2) c2
      have v1 := FX_k e1 o1 mn1 hk1
      have v2 := FX_k e2 o2 mn2 hk2
      unfold rowF at hl
      rw [lcmp_c] at hl
      dsimp only at hl
      refine ri_iload h d_Fl_compare_100 rfl ?_
      refine ri_aload h d_Fl_compare_102 rfl ?_
      refine ri_get h d_Fl_compare_104 fl_Fl_119 (by first | assumption | exact hS.sh_of (by first | assumption | omega) (by assumption) | exact hS.sh (by first | assumption | omega) | exact gup_s) (by rfl) ?_
      first | refine ri_icmpN_ge h 194 d_Fl_compare_107 (by decide) (by omega) (by omega) (fun c_107 => ?_) (fun c_107 => ?_) | refine ri_icmp_ge h 194 d_Fl_compare_107 (by decide) (fun c_107 => ?_) (fun c_107 => ?_)
      · omega
      · refine ri_iload h d_Fl_compare_110 rfl ?_
        refine ri_if_ne h 194 d_Fl_compare_112 (by decide) (fun c_112 => ?_) (fun c_112 => ?_)
        · exact absurd rfl c_112
        · refine ri_aload h d_Fl_compare_115 rfl ?_
          refine ri_aload_n h d_Fl_compare_117 rfl ?_
          refine ri_get h d_Fl_compare_118 fl_Fl_21 (by first | assumption | exact hS.fl_of (by first | assumption | omega) (by assumption) | exact hS.fl (by first | assumption | omega) | exact gup_s) (by rfl) ?_
          refine ri_iload_n h d_Fl_compare_121 rfl ?_
          refine ri_ialdE h _ d_Fl_compare_122 (hS.flt hj1) rfl hi31 (by decide) (v := nI w1.2.1) (congrArg nI t1) ?_
          refine ri_iload h d_Fl_compare_123 rfl ?_
          refine ri_cVv_2 (r := (gR4, gT4, 10)) h d_Fl_compare_125 cv_Fl_153 (by first | exact hS.lcO | exact hS.lsO | exact hS.lpO | exact hS.cesO (by first | assumption | omega) | exact hS.cepO (by first | assumption | omega) | exact ⟨_, (by first | assumption | exact hS.st | exact hS.mo | exact hS.out | exact hS.sb | exact hS.ce (by first | assumption | omega) | exact hS.ceb (by first | assumption | omega) | exact hS.sh (by first | assumption | omega) | exact hS.shb (by first | assumption | omega) | exact hS.pl (by first | assumption | omega) | exact hS.plb (by first | assumption | omega) | exact hS.fl (by first | assumption | omega) | exact gup_s | (refine gup_t (by assumption) ?_; first | assumption | exact gup_s | (refine gup_t (by assumption) ?_; first | assumption | exact gup_s | (refine gup_t (by assumption) ?_; first | assumption | exact gup_s))))⟩) rfl (k_orderedIndex h0 hS s1 a1 c1 fi1 rfl mn1.1 st1 hk1) (Nat.le_of_ble_eq_true rfl) (Nat.le_of_ble_eq_true rfl) (Nat.le_of_ble_eq_true rfl) (Nat.le_of_ble_eq_true rfl) (Nat.le_of_ble_eq_true rfl) ?_
          refine ri_istore h d_Fl_compare_128 (Nat.le_of_ble_eq_true rfl) ?_
          refine ri_aload h d_Fl_compare_130 rfl ?_
          refine ri_aload_n h d_Fl_compare_132 rfl ?_
          refine ri_get h d_Fl_compare_133 fl_Fl_21 (by first | assumption | exact hS.fl_of (by first | assumption | omega) (by assumption) | exact hS.fl (by first | assumption | omega) | exact gup_s) (by rfl) ?_
          refine ri_iload_n h d_Fl_compare_136 rfl ?_
          refine ri_ialdE h _ d_Fl_compare_137 (hS.flt hj2) rfl hi32 (by decide) (v := nI w2.2.1) (congrArg nI t2) ?_
          refine ri_iload h d_Fl_compare_138 rfl ?_
          refine ri_cVv_2 (r := (gR4, gT4, 10)) h d_Fl_compare_140 cv_Fl_153 (by first | exact hS.lcO | exact hS.lsO | exact hS.lpO | exact hS.cesO (by first | assumption | omega) | exact hS.cepO (by first | assumption | omega) | exact ⟨_, (by first | assumption | exact hS.st | exact hS.mo | exact hS.out | exact hS.sb | exact hS.ce (by first | assumption | omega) | exact hS.ceb (by first | assumption | omega) | exact hS.sh (by first | assumption | omega) | exact hS.shb (by first | assumption | omega) | exact hS.pl (by first | assumption | omega) | exact hS.plb (by first | assumption | omega) | exact hS.fl (by first | assumption | omega) | exact gup_s | (refine gup_t (by assumption) ?_; first | assumption | exact gup_s | (refine gup_t (by assumption) ?_; first | assumption | exact gup_s | (refine gup_t (by assumption) ?_; first | assumption | exact gup_s))))⟩) rfl (k_orderedIndex h0 hS s2 a2 c2 fi2 rfl mn2.1 st2 hk2) (Nat.le_of_ble_eq_true rfl) (Nat.le_of_ble_eq_true rfl) (Nat.le_of_ble_eq_true rfl) (Nat.le_of_ble_eq_true rfl) (Nat.le_of_ble_eq_true rfl) ?_
          refine ri_istore h d_Fl_compare_143 (Nat.le_of_ble_eq_true rfl) ?_
          refine ri_aload_n h d_Fl_compare_145 rfl ?_
          refine ri_iload_n h d_Fl_compare_146 rfl ?_
          refine ri_iload h d_Fl_compare_147 rfl ?_
          refine ri_cVv_2 (r := (gR2, gT2, 11)) h d_Fl_compare_149 cv_Fl_156 (by first | exact hS.lcO | exact hS.lsO | exact hS.lpO | exact hS.cesO (by first | assumption | omega) | exact hS.cepO (by first | assumption | omega) | exact ⟨_, (by first | assumption | exact hS.st | exact hS.mo | exact hS.out | exact hS.sb | exact hS.ce (by first | assumption | omega) | exact hS.ceb (by first | assumption | omega) | exact hS.sh (by first | assumption | omega) | exact hS.shb (by first | assumption | omega) | exact hS.pl (by first | assumption | omega) | exact hS.plb (by first | assumption | omega) | exact hS.fl (by first | assumption | omega) | exact gup_s | (refine gup_t (by assumption) ?_; first | assumption | exact gup_s | (refine gup_t (by assumption) ?_; first | assumption | exact gup_s | (refine gup_t (by assumption) ?_; first | assumption | exact gup_s))))⟩) rfl (k_cornerX h0 hS hj1 hF1 hi1 q1) (Nat.le_of_ble_eq_true rfl) (Nat.le_of_ble_eq_true rfl) (Nat.le_of_ble_eq_true rfl) (Nat.le_of_ble_eq_true rfl) (Nat.le_of_ble_eq_true rfl) ?_
          refine ri_aload_n h d_Fl_compare_152 rfl ?_
          refine ri_iload_n h d_Fl_compare_153 rfl ?_
          refine ri_iload h d_Fl_compare_154 rfl ?_
          refine ri_cVv_2 (r := (gR2, gT2, 11)) h d_Fl_compare_156 cv_Fl_156 (by first | exact hS.lcO | exact hS.lsO | exact hS.lpO | exact hS.cesO (by first | assumption | omega) | exact hS.cepO (by first | assumption | omega) | exact ⟨_, (by first | assumption | exact hS.st | exact hS.mo | exact hS.out | exact hS.sb | exact hS.ce (by first | assumption | omega) | exact hS.ceb (by first | assumption | omega) | exact hS.sh (by first | assumption | omega) | exact hS.shb (by first | assumption | omega) | exact hS.pl (by first | assumption | omega) | exact hS.plb (by first | assumption | omega) | exact hS.fl (by first | assumption | omega) | exact gup_s | (refine gup_t (by assumption) ?_; first | assumption | exact gup_s | (refine gup_t (by assumption) ?_; first | assumption | exact gup_s | (refine gup_t (by assumption) ?_; first | assumption | exact gup_s))))⟩) rfl (k_cornerX h0 hS hj2 hF2 hi2 q2) (Nat.le_of_ble_eq_true rfl) (Nat.le_of_ble_eq_true rfl) (Nat.le_of_ble_eq_true rfl) (Nat.le_of_ble_eq_true rfl) (Nat.le_of_ble_eq_true rfl) ?_
          refine ri_cSv_2 h d_Fl_compare_159 cs_Fl_189 (m_jcmp h0 _ _ _) (Nat.le_of_ble_eq_true rfl) (Nat.le_of_ble_eq_true rfl) (Nat.le_of_ble_eq_true rfl) (Nat.le_of_ble_eq_true rfl) (Nat.le_of_ble_eq_true rfl) ?_
          rcases jcmp_c (FX Q.sh (Q.fl j1) i1 (oix (Q.sh w1.1).cnt f1 ((Q.sh w1.1).st w1.2.1) k)) (FX Q.sh (Q.fl j2) i2 (oix (Q.sh w2.1).cnt f2 ((Q.sh w2.1).st w2.2.1) k)) with ⟨e, he⟩ | ⟨e, he⟩ | ⟨e, he⟩ <;> rw [e]
          · rw [v1.1, v2.1] at he
            rw [if_pos he] at hl
            refine ri_istore h d_Fl_compare_162 (Nat.le_of_ble_eq_true rfl) ?_
            refine ri_iload h d_Fl_compare_164 rfl ?_
            refine ri_if_ne h 188 d_Fl_compare_166 (by decide) (fun c_166 => ?_) (fun c_166 => ?_)
            · first | refine ri_iincN h d_Fl_compare_188 rfl (Nat.le_of_ble_eq_true rfl) ?_ | refine ri_iinc h _ d_Fl_compare_188 rfl rfl (Nat.le_of_ble_eq_true rfl) ?_
              refine ri_goto h 100 d_Fl_compare_191 (by decide) ?_
              exact ri_ls [(0, .ref (ad 3 j1)), (1, .int (nI i1)), (2, .ref (ad 3 j2)), (3, .int (nI i2)), (4, .ref (ad 18 w1.1)), (5, .ref (ad 18 w2.1)), (6, .int (-1)), (7, .int (nI (k + 1)))] ⟨rfl, rfl, rfl, rfl, rfl, rfl, rfl, rfl, trivial⟩ (JE (-1) (k + 1) (by omega) (by decide) hl.symm)
            · exact absurd c_166 (by decide)
          · have he := congrArg Int64.toInt he
            rw [v1.1, v2.1] at he
            rw [if_neg (by omega), if_pos he, lcmp_c] at hl
            refine ri_istore h d_Fl_compare_162 (Nat.le_of_ble_eq_true rfl) ?_
            refine ri_iload h d_Fl_compare_164 rfl ?_
            refine ri_if_ne h 188 d_Fl_compare_166 (by decide) (fun c_166 => ?_) (fun c_166 => ?_)
            · exact absurd rfl c_166
            · refine ri_aload_n h d_Fl_compare_169 rfl ?_
              refine ri_iload_n h d_Fl_compare_170 rfl ?_
              refine ri_iload h d_Fl_compare_171 rfl ?_
              refine ri_cVv_2 (r := (gR2, gT2, 11)) h d_Fl_compare_173 cv_Fl_162 (by first | exact hS.lcO | exact hS.lsO | exact hS.lpO | exact hS.cesO (by first | assumption | omega) | exact hS.cepO (by first | assumption | omega) | exact ⟨_, (by first | assumption | exact hS.st | exact hS.mo | exact hS.out | exact hS.sb | exact hS.ce (by first | assumption | omega) | exact hS.ceb (by first | assumption | omega) | exact hS.sh (by first | assumption | omega) | exact hS.shb (by first | assumption | omega) | exact hS.pl (by first | assumption | omega) | exact hS.plb (by first | assumption | omega) | exact hS.fl (by first | assumption | omega) | exact gup_s | (refine gup_t (by assumption) ?_; first | assumption | exact gup_s | (refine gup_t (by assumption) ?_; first | assumption | exact gup_s | (refine gup_t (by assumption) ?_; first | assumption | exact gup_s))))⟩) rfl (k_cornerY h0 hS hj1 hF1 hi1 q1) (Nat.le_of_ble_eq_true rfl) (Nat.le_of_ble_eq_true rfl) (Nat.le_of_ble_eq_true rfl) (Nat.le_of_ble_eq_true rfl) (Nat.le_of_ble_eq_true rfl) ?_
              refine ri_aload_n h d_Fl_compare_176 rfl ?_
              refine ri_iload_n h d_Fl_compare_177 rfl ?_
              refine ri_iload h d_Fl_compare_178 rfl ?_
              refine ri_cVv_2 (r := (gR2, gT2, 11)) h d_Fl_compare_180 cv_Fl_162 (by first | exact hS.lcO | exact hS.lsO | exact hS.lpO | exact hS.cesO (by first | assumption | omega) | exact hS.cepO (by first | assumption | omega) | exact ⟨_, (by first | assumption | exact hS.st | exact hS.mo | exact hS.out | exact hS.sb | exact hS.ce (by first | assumption | omega) | exact hS.ceb (by first | assumption | omega) | exact hS.sh (by first | assumption | omega) | exact hS.shb (by first | assumption | omega) | exact hS.pl (by first | assumption | omega) | exact hS.plb (by first | assumption | omega) | exact hS.fl (by first | assumption | omega) | exact gup_s | (refine gup_t (by assumption) ?_; first | assumption | exact gup_s | (refine gup_t (by assumption) ?_; first | assumption | exact gup_s | (refine gup_t (by assumption) ?_; first | assumption | exact gup_s))))⟩) rfl (k_cornerY h0 hS hj2 hF2 hi2 q2) (Nat.le_of_ble_eq_true rfl) (Nat.le_of_ble_eq_true rfl) (Nat.le_of_ble_eq_true rfl) (Nat.le_of_ble_eq_true rfl) (Nat.le_of_ble_eq_true rfl) ?_
              refine ri_cSv_2 h d_Fl_compare_183 cs_Fl_189 (m_jcmp h0 _ _ _) (Nat.le_of_ble_eq_true rfl) (Nat.le_of_ble_eq_true rfl) (Nat.le_of_ble_eq_true rfl) (Nat.le_of_ble_eq_true rfl) (Nat.le_of_ble_eq_true rfl) ?_
              rcases jcmp_c (FY Q.sh (Q.fl j1) i1 (oix (Q.sh w1.1).cnt f1 ((Q.sh w1.1).st w1.2.1) k)) (FY Q.sh (Q.fl j2) i2 (oix (Q.sh w2.1).cnt f2 ((Q.sh w2.1).st w2.2.1) k)) with ⟨e, he2⟩ | ⟨e, he2⟩ | ⟨e, he2⟩ <;> rw [e]
              · rw [v1.2, v2.2] at he2
                rw [if_pos he2] at hl
                refine ri_istore h d_Fl_compare_186 (Nat.le_of_ble_eq_true rfl) ?_
                first | refine ri_iincN h d_Fl_compare_188 rfl (Nat.le_of_ble_eq_true rfl) ?_ | refine ri_iinc h _ d_Fl_compare_188 rfl rfl (Nat.le_of_ble_eq_true rfl) ?_
                refine ri_goto h 100 d_Fl_compare_191 (by decide) ?_
                exact ri_ls [(0, .ref (ad 3 j1)), (1, .int (nI i1)), (2, .ref (ad 3 j2)), (3, .int (nI i2)), (4, .ref (ad 18 w1.1)), (5, .ref (ad 18 w2.1)), (6, .int (-1)), (7, .int (nI (k + 1)))] ⟨rfl, rfl, rfl, rfl, rfl, rfl, rfl, rfl, trivial⟩ (JE (-1) (k + 1) (by omega) (by decide) hl.symm)
              · have he2 := congrArg Int64.toInt he2
                rw [v1.2, v2.2] at he2
                rw [if_neg (by omega), if_pos he2] at hl
                refine ri_istore h d_Fl_compare_186 (Nat.le_of_ble_eq_true rfl) ?_
                first | refine ri_iincN h d_Fl_compare_188 rfl (Nat.le_of_ble_eq_true rfl) ?_ | refine ri_iinc h _ d_Fl_compare_188 rfl rfl (Nat.le_of_ble_eq_true rfl) ?_
                refine ri_goto h 100 d_Fl_compare_191 (by decide) ?_
                exact ri_ls [(0, .ref (ad 3 j1)), (1, .int (nI i1)), (2, .ref (ad 3 j2)), (3, .int (nI i2)), (4, .ref (ad 18 w1.1)), (5, .ref (ad 18 w2.1)), (6, .int 0), (7, .int (nI (k + 1)))] ⟨rfl, rfl, rfl, rfl, rfl, rfl, rfl, rfl, trivial⟩ (ih (k + 1) (by omega) hl)
              · rw [v1.2, v2.2] at he2
                rw [if_neg (by omega), if_neg (by omega)] at hl
                refine ri_istore h d_Fl_compare_186 (Nat.le_of_ble_eq_true rfl) ?_
                first | refine ri_iincN h d_Fl_compare_188 rfl (Nat.le_of_ble_eq_true rfl) ?_ | refine ri_iinc h _ d_Fl_compare_188 rfl rfl (Nat.le_of_ble_eq_true rfl) ?_
                refine ri_goto h 100 d_Fl_compare_191 (by decide) ?_
                exact ri_ls [(0, .ref (ad 3 j1)), (1, .int (nI i1)), (2, .ref (ad 3 j2)), (3, .int (nI i2)), (4, .ref (ad 18 w1.1)), (5, .ref (ad 18 w2.1)), (6, .int 1), (7, .int (nI (k + 1)))] ⟨rfl, rfl, rfl, rfl, rfl, rfl, rfl, rfl, trivial⟩ (JE 1 (k + 1) (by omega) (by decide) hl.symm)
          · rw [v1.1, v2.1] at he
            rw [if_neg (by omega), if_neg (by omega)] at hl
            refine ri_istore h d_Fl_compare_162 (Nat.le_of_ble_eq_true rfl) ?_
            refine ri_iload h d_Fl_compare_164 rfl ?_
            refine ri_if_ne h 188 d_Fl_compare_166 (by decide) (fun c_166 => ?_) (fun c_166 => ?_)
            · first | refine ri_iincN h d_Fl_compare_188 rfl (Nat.le_of_ble_eq_true rfl) ?_ | refine ri_iinc h _ d_Fl_compare_188 rfl rfl (Nat.le_of_ble_eq_true rfl) ?_
              refine ri_goto h 100 d_Fl_compare_191 (by decide) ?_
              exact ri_ls [(0, .ref (ad 3 j1)), (1, .int (nI i1)), (2, .ref (ad 3 j2)), (3, .int (nI i2)), (4, .ref (ad 18 w1.1)), (5, .ref (ad 18 w2.1)), (6, .int 1), (7, .int (nI (k + 1)))] ⟨rfl, rfl, rfl, rfl, rfl, rfl, rfl, rfl, trivial⟩ (JE 1 (k + 1) (by omega) (by decide) hl.symm)
            · exact absurd c_166 (by decide)
  have JK : G (gzz D s0 (p_, l', e_, R_, s_, m_, ar_, be_, me_, c_) (rk 2 0 0) (fR (some (.int (lcmp (key Q w1) (key Q w2)))) M) 10) 88 [(0, .ref (ad 3 j1)), (1, .int (nI i1)), (2, .ref (ad 3 j2)), (3, .int (nI i2)), (4, .ref (ad 18 w1.1)), (5, .ref (ad 18 w2.1))] [] M 0 0 := by
    refine ri_aload h d_Fl_compare_88 rfl ?_
    refine ri_aload h d_Fl_compare_90 rfl ?_
    refine ri_cVv_1 (r := (gR4, gT4, 10)) h d_Fl_compare_92 cv_Fl_194 (by first | exact hS.lcO | exact hS.lsO | exact hS.lpO | exact hS.cesO (by first | assumption | omega) | exact hS.cepO (by first | assumption | omega) | exact ⟨_, (by first | assumption | exact hS.st | exact hS.mo | exact hS.out | exact hS.sb | exact hS.ce (by first | assumption | omega) | exact hS.ceb (by first | assumption | omega) | exact hS.sh (by first | assumption | omega) | exact hS.shb (by first | assumption | omega) | exact hS.pl (by first | assumption | omega) | exact hS.plb (by first | assumption | omega) | exact hS.fl (by first | assumption | omega) | exact gup_s | (refine gup_t (by assumption) ?_; first | assumption | exact gup_s | (refine gup_t (by assumption) ?_; first | assumption | exact gup_s | (refine gup_t (by assumption) ?_; first | assumption | exact gup_s))))⟩) rfl (k_compareKind h0 (hS.sh s1) (hS.sh s2)) (Nat.le_of_ble_eq_true rfl) (Nat.le_of_ble_eq_true rfl) (Nat.le_of_ble_eq_true rfl) (Nat.le_of_ble_eq_true rfl) (Nat.le_of_ble_eq_true rfl) ?_
    rcases key_d (w1 := w1) (w2 := w2) c1 c2 with ⟨d1, d2⟩ | ⟨d1, d2, d3⟩
    · refine ri_istore h d_Fl_compare_95 (Nat.le_of_ble_eq_true rfl) ?_
      refine ri_iconstN h 0 d_Fl_compare_97 rfl ?_
      refine ri_istore h d_Fl_compare_98 (Nat.le_of_ble_eq_true rfl) ?_
      exact ri_ls [(0, .ref (ad 3 j1)), (1, .int (nI i1)), (2, .ref (ad 3 j2)), (3, .int (nI i2)), (4, .ref (ad 18 w1.1)), (5, .ref (ad 18 w2.1)), (6, .int (kcmp (Q.sh w1.1) (Q.sh w2.1))), (7, .int (nI 0))] ⟨rfl, rfl, rfl, rfl, rfl, rfl, rfl, rfl, trivial⟩ (JE _ 0 (by decide) d1 d2.symm)
    · rw [show (if icmp (Q.sh w1.1).layer (Q.sh w2.1).layer ≠ 0 then icmp (Q.sh w1.1).layer (Q.sh w2.1).layer else if jcmp (Q.sh w1.1).w (Q.sh w2.1).w ≠ 0 then jcmp (Q.sh w1.1).w (Q.sh w2.1).w else if icmp (Q.sh w1.1).ends (Q.sh w2.1).ends ≠ 0 then icmp (Q.sh w1.1).ends (Q.sh w2.1).ends else icmp (nI (Q.sh w1.1).cnt) (nI (Q.sh w2.1).cnt)) = 0 from d1]
      refine ri_istore h d_Fl_compare_95 (Nat.le_of_ble_eq_true rfl) ?_
      refine ri_iconstN h 0 d_Fl_compare_97 rfl ?_
      refine ri_istore h d_Fl_compare_98 (Nat.le_of_ble_eq_true rfl) ?_
      exact ri_ls [(0, .ref (ad 3 j1)), (1, .int (nI i1)), (2, .ref (ad 3 j2)), (3, .int (nI i2)), (4, .ref (ad 18 w1.1)), (5, .ref (ad 18 w2.1)), (6, .int 0), (7, .int (nI 0))] ⟨rfl, rfl, rfl, rfl, rfl, rfl, rfl, rfl, trivial⟩ (JL d2 _ 0 (Nat.zero_add _) d3)
  refine ri_aload_n h d_Fl_compare_0 rfl ?_
  refine ri_get h d_Fl_compare_1 fl_Fl_11 (by first | assumption | exact hS.fl_of (by first | assumption | omega) (by assumption) | exact hS.fl (by first | assumption | omega) | exact gup_s) (by rfl) ?_
  refine ri_iload_n h d_Fl_compare_4 rfl ?_
  refine ri_aald h 4 _ d_Fl_compare_5 (Or.inr rfl) (hS.fls hj1) rfl hi31 (by decide) (congrArg (Option.map (ad 18)) g1) ?_
  refine ri_astore h d_Fl_compare_6 (Nat.le_of_ble_eq_true rfl) ?_
  refine ri_aload_n h d_Fl_compare_8 rfl ?_
  refine ri_get h d_Fl_compare_9 fl_Fl_11 (by first | assumption | exact hS.fl_of (by first | assumption | omega) (by assumption) | exact hS.fl (by first | assumption | omega) | exact gup_s) (by rfl) ?_
  refine ri_iload_n h d_Fl_compare_12 rfl ?_
  refine ri_aald h 4 _ d_Fl_compare_13 (Or.inr rfl) (hS.fls hj2) rfl hi32 (by decide) (congrArg (Option.map (ad 18)) g2) ?_
  refine ri_astore h d_Fl_compare_14 (Nat.le_of_ble_eq_true rfl) ?_
  refine ri_aload h d_Fl_compare_16 rfl ?_
  refine ri_aload h d_Fl_compare_18 rfl ?_
  refine ri_acmp_ne h 88 d_Fl_compare_20 (by decide) (fun c_20 => ?_) (fun c_20 => ?_)
  · exact ri_ls [(0, .ref (ad 3 j1)), (1, .int (nI i1)), (2, .ref (ad 3 j2)), (3, .int (nI i2)), (4, .ref (ad 18 w1.1)), (5, .ref (ad 18 w2.1))] ⟨rfl, rfl, rfl, rfl, rfl, rfl, trivial⟩ JK
  · have hss := hS.inj18 s1 s2 c_20
    refine ri_aload_n h d_Fl_compare_23 rfl ?_
    refine ri_get h d_Fl_compare_24 fl_Fl_21 (by first | assumption | exact hS.fl_of (by first | assumption | omega) (by assumption) | exact hS.fl (by first | assumption | omega) | exact gup_s) (by rfl) ?_
    refine ri_iload_n h d_Fl_compare_27 rfl ?_
    refine ri_ialdE h _ d_Fl_compare_28 (hS.flt hj1) rfl hi31 (by decide) (v := nI w1.2.1) (congrArg nI t1) ?_
    refine ri_aload_n h d_Fl_compare_29 rfl ?_
    refine ri_get h d_Fl_compare_30 fl_Fl_21 (by first | assumption | exact hS.fl_of (by first | assumption | omega) (by assumption) | exact hS.fl (by first | assumption | omega) | exact gup_s) (by rfl) ?_
    refine ri_iload_n h d_Fl_compare_33 rfl ?_
    refine ri_ialdE h _ d_Fl_compare_34 (hS.flt hj2) rfl hi32 (by decide) (v := nI w2.2.1) (congrArg nI t2) ?_
    first | refine ri_icmpN_ne h 88 d_Fl_compare_35 (by decide) (by omega) (by omega) (fun c_35 => ?_) (fun c_35 => ?_) | refine ri_icmp_ne h 88 d_Fl_compare_35 (by decide) (fun c_35 => ?_) (fun c_35 => ?_)
    · exact ri_ls [(0, .ref (ad 3 j1)), (1, .int (nI i1)), (2, .ref (ad 3 j2)), (3, .int (nI i2)), (4, .ref (ad 18 w1.1)), (5, .ref (ad 18 w2.1))] ⟨rfl, rfl, rfl, rfl, rfl, rfl, trivial⟩ JK
    · have htt : w1.2.1 = w2.2.1 := by omega
      have hk := key_s z1 hss htt
      refine ri_aload_n h d_Fl_compare_38 rfl ?_
      refine ri_get h d_Fl_compare_39 fl_Fl_24 (by first | assumption | exact hS.fl_of (by first | assumption | omega) (by assumption) | exact hS.fl (by first | assumption | omega) | exact gup_s) (by rfl) ?_
      refine ri_iload_n h d_Fl_compare_42 rfl ?_
      refine ri_laldE h _ d_Fl_compare_43 (hS.flx hj1) rfl hi31 (by decide) x1 ?_
      refine ri_aload_n h d_Fl_compare_44 rfl ?_
      refine ri_get h d_Fl_compare_45 fl_Fl_24 (by first | assumption | exact hS.fl_of (by first | assumption | omega) (by assumption) | exact hS.fl (by first | assumption | omega) | exact gup_s) (by rfl) ?_
      refine ri_iload_n h d_Fl_compare_48 rfl ?_
      refine ri_laldE h _ d_Fl_compare_49 (hS.flx hj2) rfl hi32 (by decide) x2 ?_
      refine ri_lcmp_eq h 72 d_Fl_compare_50 d_Fl_compare_51 (by decide) (fun c_50 => ?_) (fun c_50 => ?_)
      · rw [if_neg (fun q => q c_50)] at hk
        refine ri_aload_n h d_Fl_compare_72 rfl ?_
        refine ri_get h d_Fl_compare_73 fl_Fl_28 (by first | assumption | exact hS.fl_of (by first | assumption | omega) (by assumption) | exact hS.fl (by first | assumption | omega) | exact gup_s) (by rfl) ?_
        refine ri_iload_n h d_Fl_compare_76 rfl ?_
        refine ri_laldE h _ d_Fl_compare_77 (hS.fly hj1) rfl hi31 (by decide) y1 ?_
        refine ri_aload_n h d_Fl_compare_78 rfl ?_
        refine ri_get h d_Fl_compare_79 fl_Fl_28 (by first | assumption | exact hS.fl_of (by first | assumption | omega) (by assumption) | exact hS.fl (by first | assumption | omega) | exact gup_s) (by rfl) ?_
        refine ri_iload_n h d_Fl_compare_82 rfl ?_
        refine ri_laldE h _ d_Fl_compare_83 (hS.fly hj2) rfl hi32 (by decide) y2 ?_
        refine ri_cSv_2 h d_Fl_compare_84 cs_Fl_189 (m_jcmp h0 _ _ _) (Nat.le_of_ble_eq_true rfl) (Nat.le_of_ble_eq_true rfl) (Nat.le_of_ble_eq_true rfl) (Nat.le_of_ble_eq_true rfl) (Nat.le_of_ble_eq_true rfl) ?_
        refine ri_ireturn h d_Fl_compare_87 (Nat.le_of_ble_eq_true rfl) (Nat.le_of_ble_eq_true rfl) ?_
        exact ⟨by rw [hk], rfl⟩
      · rw [if_pos c_50] at hk
        refine ri_aload_n h d_Fl_compare_54 rfl ?_
        refine ri_get h d_Fl_compare_55 fl_Fl_24 (by first | assumption | exact hS.fl_of (by first | assumption | omega) (by assumption) | exact hS.fl (by first | assumption | omega) | exact gup_s) (by rfl) ?_
        refine ri_iload_n h d_Fl_compare_58 rfl ?_
        refine ri_laldE h _ d_Fl_compare_59 (hS.flx hj1) rfl hi31 (by decide) x1 ?_
        refine ri_aload_n h d_Fl_compare_60 rfl ?_
        refine ri_get h d_Fl_compare_61 fl_Fl_24 (by first | assumption | exact hS.fl_of (by first | assumption | omega) (by assumption) | exact hS.fl (by first | assumption | omega) | exact gup_s) (by rfl) ?_
        refine ri_iload_n h d_Fl_compare_64 rfl ?_
        refine ri_laldE h _ d_Fl_compare_65 (hS.flx hj2) rfl hi32 (by decide) x2 ?_
        refine ri_cSv_2 h d_Fl_compare_66 cs_Fl_189 (m_jcmp h0 _ _ _) (Nat.le_of_ble_eq_true rfl) (Nat.le_of_ble_eq_true rfl) (Nat.le_of_ble_eq_true rfl) (Nat.le_of_ble_eq_true rfl) (Nat.le_of_ble_eq_true rfl) ?_
        refine ri_goto h 87 d_Fl_compare_69 (by decide) ?_
        refine ri_ireturn h d_Fl_compare_87 (Nat.le_of_ble_eq_true rfl) (Nat.le_of_ble_eq_true rfl) ?_
        exact ⟨by rw [hk], rfl⟩
def mk2 (x y : Int64) : Int64 := let m := x * -7046029254386353131 + y * -4417276706812531889; (m ^^^ (m.toUInt64 >>> (((32 : Int32)).toInt64.toUInt64 &&& Int64.toUInt64 63)).toInt64) * (m ^^^ (m.toUInt64 >>> (((32 : Int32)).toInt64.toUInt64 &&& Int64.toUInt64 63)).toInt64)
def mkK (K : List Int) : Int64 := mk2 (Int64.ofInt (K.getD 4 0)) (Int64.ofInt (K.getD 5 0))
theorem k_markOf (h0 : g_0 l D s0) (hS : HS z ad Q N M) {j1 i1 : Nat} {w1 : It} (hj1 : j1 < 3) (hF1 : WFl Q.nS Q.sh (Q.fl j1)) (hi1 : i1 < (Q.fl j1).cnt) (e1 : cIt (Q.fl j1) i1 w1) (o1 : itm Q w1) : Ct l D s0 y_Fl_markOf (Cond.code y_Fl_markOf b_Fl_markOf 5 (some .long)) (rk 2 0 0) [.ref (ad 3 j1), .int (nI i1)] M (fR (some (.long (mkK (key Q w1)))) M) := by
  have hi31 : i1 < 3000 := Nat.lt_of_lt_of_le hi1 hF1.1
  obtain ⟨g1, t1, x1, y1⟩ := id e1
  obtain ⟨s1, a1, c1, z1, n1, m1, b1, b1', p1⟩ := id o1
  obtain ⟨f1, fi1, mn1⟩ := m1.min n1
  have st1 := (alw_lt z1 mn1.2.1).2
  have q1 : oix (Q.sh w1.1).cnt f1 ((Q.sh w1.1).st w1.2.1) 0 < 24 := Nat.lt_of_lt_of_le (oix_lt z1) c1
  have v1 := FX_k e1 o1 mn1 z1
  have hmk : mkK (key Q w1) = mk2 (FX Q.sh (Q.fl j1) i1 (oix (Q.sh w1.1).cnt f1 ((Q.sh w1.1).st w1.2.1) 0)) (FY Q.sh (Q.fl j1) i1 (oix (Q.sh w1.1).cnt f1 ((Q.sh w1.1).st w1.2.1) 0)) := by
    obtain ⟨m, hm⟩ : ∃ m, (Q.sh w1.1).cnt = m + 1 := ⟨(Q.sh w1.1).cnt - 1, by omega⟩
    have k1 : (key Q w1).getD 4 0 = w1.2.2.1.toInt + lkX (Q.sh w1.1) w1.2.1 0 := by unfold key keyR; rw [hm]; rfl
    have k2 : (key Q w1).getD 5 0 = w1.2.2.2.toInt + lkY (Q.sh w1.1) w1.2.1 0 := by unfold key keyR; rw [hm]; rfl
    unfold mkK
    rw [k1, k2, ← v1.1, ← v1.2, Int64.ofInt_toInt, Int64.ofInt_toInt]
  rw [hmk]
  refine Ct.of h0 (by decide +kernel) rfl fun X hX h => ?_
  obtain ⟨p_, l', e_, R_, s_, m_, ar_, be_, me_, c_⟩ := X
  obtain rfl : l' = l := hX
  refine ri_aload_n h d_Fl_markOf_0 rfl ?_
  refine ri_get h d_Fl_markOf_1 fl_Fl_11 (by first | assumption | exact hS.fl_of (by first | assumption | omega) (by assumption) | exact hS.fl (by first | assumption | omega) | exact gup_s) (by rfl) ?_
  refine ri_iload_n h d_Fl_markOf_4 rfl ?_
  refine ri_aald h 4 _ d_Fl_markOf_5 (Or.inr rfl) (hS.fls hj1) rfl hi31 (by decide) (congrArg (Option.map (ad 18)) g1) ?_
  refine ri_aload_n h d_Fl_markOf_6 rfl ?_
  refine ri_get h d_Fl_markOf_7 fl_Fl_21 (by first | assumption | exact hS.fl_of (by first | assumption | omega) (by assumption) | exact hS.fl (by first | assumption | omega) | exact gup_s) (by rfl) ?_
  refine ri_iload_n h d_Fl_markOf_10 rfl ?_
  refine ri_ialdE h _ d_Fl_markOf_11 (hS.flt hj1) rfl hi31 (by decide) (v := nI w1.2.1) (congrArg nI t1) ?_
  refine ri_iconstN h 0 d_Fl_markOf_12 rfl ?_
  refine ri_cVv_2 (r := (gR4, gT4, 10)) h d_Fl_markOf_13 cv_Fl_153 (by first | exact hS.lcO | exact hS.lsO | exact hS.lpO | exact hS.cesO (by first | assumption | omega) | exact hS.cepO (by first | assumption | omega) | exact ⟨_, (by first | assumption | exact hS.st | exact hS.mo | exact hS.out | exact hS.sb | exact hS.ce (by first | assumption | omega) | exact hS.ceb (by first | assumption | omega) | exact hS.sh (by first | assumption | omega) | exact hS.shb (by first | assumption | omega) | exact hS.pl (by first | assumption | omega) | exact hS.plb (by first | assumption | omega) | exact hS.fl (by first | assumption | omega) | exact gup_s | (refine gup_t (by assumption) ?_; first | assumption | exact gup_s | (refine gup_t (by assumption) ?_; first | assumption | exact gup_s | (refine gup_t (by assumption) ?_; first | assumption | exact gup_s))))⟩) rfl (k_orderedIndex h0 hS s1 a1 c1 fi1 rfl mn1.1 st1 z1) (Nat.le_of_ble_eq_true rfl) (Nat.le_of_ble_eq_true rfl) (Nat.le_of_ble_eq_true rfl) (Nat.le_of_ble_eq_true rfl) (Nat.le_of_ble_eq_true rfl) ?_
  refine ri_istore_n h d_Fl_markOf_16 (Nat.le_of_ble_eq_true rfl) ?_
  refine ri_aload_n h d_Fl_markOf_17 rfl ?_
  refine ri_iload_n h d_Fl_markOf_18 rfl ?_
  refine ri_iload_n h d_Fl_markOf_19 rfl ?_
  refine ri_cVv_2 (r := (gR2, gT2, 11)) h d_Fl_markOf_20 cv_Fl_156 (by first | exact hS.lcO | exact hS.lsO | exact hS.lpO | exact hS.cesO (by first | assumption | omega) | exact hS.cepO (by first | assumption | omega) | exact ⟨_, (by first | assumption | exact hS.st | exact hS.mo | exact hS.out | exact hS.sb | exact hS.ce (by first | assumption | omega) | exact hS.ceb (by first | assumption | omega) | exact hS.sh (by first | assumption | omega) | exact hS.shb (by first | assumption | omega) | exact hS.pl (by first | assumption | omega) | exact hS.plb (by first | assumption | omega) | exact hS.fl (by first | assumption | omega) | exact gup_s | (refine gup_t (by assumption) ?_; first | assumption | exact gup_s | (refine gup_t (by assumption) ?_; first | assumption | exact gup_s | (refine gup_t (by assumption) ?_; first | assumption | exact gup_s))))⟩) rfl (k_cornerX h0 hS hj1 hF1 hi1 q1) (Nat.le_of_ble_eq_true rfl) (Nat.le_of_ble_eq_true rfl) (Nat.le_of_ble_eq_true rfl) (Nat.le_of_ble_eq_true rfl) (Nat.le_of_ble_eq_true rfl) ?_
  refine ri_ldc2 h (-7046029254386353131) d_Fl_markOf_23 kl_Fl_160 ?_
  refine ri_lmul h d_Fl_markOf_26 ?_
  refine ri_aload_n h d_Fl_markOf_27 rfl ?_
  refine ri_iload_n h d_Fl_markOf_28 rfl ?_
  refine ri_iload_n h d_Fl_markOf_29 rfl ?_
  refine ri_cVv_2 (r := (gR2, gT2, 11)) h d_Fl_markOf_30 cv_Fl_162 (by first | exact hS.lcO | exact hS.lsO | exact hS.lpO | exact hS.cesO (by first | assumption | omega) | exact hS.cepO (by first | assumption | omega) | exact ⟨_, (by first | assumption | exact hS.st | exact hS.mo | exact hS.out | exact hS.sb | exact hS.ce (by first | assumption | omega) | exact hS.ceb (by first | assumption | omega) | exact hS.sh (by first | assumption | omega) | exact hS.shb (by first | assumption | omega) | exact hS.pl (by first | assumption | omega) | exact hS.plb (by first | assumption | omega) | exact hS.fl (by first | assumption | omega) | exact gup_s | (refine gup_t (by assumption) ?_; first | assumption | exact gup_s | (refine gup_t (by assumption) ?_; first | assumption | exact gup_s | (refine gup_t (by assumption) ?_; first | assumption | exact gup_s))))⟩) rfl (k_cornerY h0 hS hj1 hF1 hi1 q1) (Nat.le_of_ble_eq_true rfl) (Nat.le_of_ble_eq_true rfl) (Nat.le_of_ble_eq_true rfl) (Nat.le_of_ble_eq_true rfl) (Nat.le_of_ble_eq_true rfl) ?_
  refine ri_ldc2 h (-4417276706812531889) d_Fl_markOf_33 kl_Fl_165 ?_
  refine ri_lmul h d_Fl_markOf_36 ?_
  refine ri_ladd h d_Fl_markOf_37 ?_
  refine ri_lstore_n h d_Fl_markOf_38 (Nat.le_of_ble_eq_true rfl) ?_
  refine ri_lload_n h d_Fl_markOf_39 rfl ?_
  refine ri_lload_n h d_Fl_markOf_40 rfl ?_
  refine ri_bipush h 32 d_Fl_markOf_41 rfl ?_
  refine ri_lushr h d_Fl_markOf_43 ?_
  refine ri_lxor h d_Fl_markOf_44 ?_
  refine ri_lstore_n h d_Fl_markOf_45 (Nat.le_of_ble_eq_true rfl) ?_
  refine ri_lload_n h d_Fl_markOf_46 rfl ?_
  refine ri_lload_n h d_Fl_markOf_47 rfl ?_
  refine ri_lmul h d_Fl_markOf_48 ?_
  refine ri_lreturn h d_Fl_markOf_49 (Nat.le_of_ble_eq_true rfl) (Nat.le_of_ble_eq_true rfl) ?_
  exact ⟨rfl, rfl⟩
end CMP
