/-! The least order of a shape's corners -/
theorem fm_p : ∀ a, a < 48 → ∀ n, n < 25 → 0 < n → ifmod (nI a) (nI n) = nI (a % n) := by decide +kernel
theorem fm_n : ∀ d, d < 24 → ∀ n, n < 25 → d < n → ifmod (-(nI d)) (nI n) = nI ((n - d) % n) := by decide +kernel
theorem oix_fm {n f k : Nat} {s : Int32} (hn : n ≤ 24) (hf : f < n) (hk : k < n) (hs : s = 1 ∨ s = -1) : ifmod (nI f + s * nI k) (nI n) = nI (oix n f s k) := by
  rcases hs with rfl | rfl
  · rw [Int32.one_mul, nI_add, fm_p _ (by omega) _ (by omega) (by omega)]
    unfold oix
    rw [if_pos rfl]
  · have e : nI f + -1 * nI k = nI f - nI k := by rw [Int32.neg_mul, Int32.one_mul, Int32.sub_eq_add_neg]
    unfold oix
    rw [if_neg (by decide), e]
    rcases Nat.le_total k f with q | q
    · rw [nI_sub q, fm_p _ (by omega) _ (by omega) (by omega), show f + n - k = (f - k) + n by omega, Nat.add_mod_right]
    · rw [show nI f - nI k = -(nI (k - f)) by rw [← nI_sub q, Int32.neg_sub], fm_n _ (by omega) _ (by omega) (by omega), show f + n - k = n - (k - f) by omega]
theorem oix_lt {n f k : Nat} {s : Int32} (hn : 0 < n) : oix n f s k < n := by
  unfold oix
  split <;> exact Nat.mod_lt _ hn
theorem jcmp_c (x y : Int64) : (jcmp x y = -1 ∧ x.toInt < y.toInt) ∨ (jcmp x y = 0 ∧ x = y) ∨ (jcmp x y = 1 ∧ y.toInt < x.toInt) := by
  unfold jcmp
  by_cases h : x < y
  · rw [if_pos h]
    exact Or.inl ⟨rfl, Int64.lt_iff_toInt_lt.mp h⟩
  · rw [if_neg h]
    by_cases e : x = y
    · rw [if_pos e]
      exact Or.inr (Or.inl ⟨rfl, e⟩)
    · rw [if_neg e]
      refine Or.inr (Or.inr ⟨rfl, ?_⟩)
      rw [Int64.lt_iff_toInt_lt] at h
      have : ¬ x.toInt = y.toInt := fun q => e (Int64.toInt.inj q)
      omega
/-- strictly before -/
def lexLt (n : Nat) (a b c d : Nat → Int) : Prop := ∃ k, k < n ∧ (∀ j, j < k → a j = c j ∧ b j = d j) ∧ (a k < c k ∨ (a k = c k ∧ b k < d k))
theorem lexLe.refl {n : Nat} {a b : Nat → Int} : lexLe n a b a b := Or.inl fun _ _ => ⟨rfl, rfl⟩
theorem lexLe.anti {n : Nat} {a b c d : Nat → Int} (h1 : lexLe n a b c d) (h2 : lexLe n c d a b) : ∀ k, k < n → a k = c k ∧ b k = d k := by
  rcases h1 with h1 | ⟨k, h1, h3, h4⟩
  · exact h1
  · rcases h2 with h2 | ⟨j, g1, g3, g4⟩
    · exact fun k hk => ⟨(h2 k hk).1.symm, (h2 k hk).2.symm⟩
    · rcases Nat.lt_trichotomy k j with q | rfl | q
      · have := g3 k q
        omega
      · omega
      · have := h3 j q
        omega
theorem lexLe.trans {n : Nat} {a b c d e f : Nat → Int} (h1 : lexLe n a b c d) (h2 : lexLe n c d e f) : lexLe n a b e f := by
  rcases h1 with h1 | ⟨k, h1, h3, h4⟩
  · rcases h2 with h2 | ⟨j, g1, g3, g4⟩
    · exact Or.inl fun k hk => ⟨(h1 k hk).1.trans (h2 k hk).1, (h1 k hk).2.trans (h2 k hk).2⟩
    · exact Or.inr ⟨j, g1, fun i hi => ⟨(h1 i (by omega)).1.trans (g3 i hi).1, (h1 i (by omega)).2.trans (g3 i hi).2⟩, by have := h1 j g1; omega⟩
  · rcases h2 with h2 | ⟨j, g1, g3, g4⟩
    · exact Or.inr ⟨k, h1, fun i hi => ⟨(h3 i hi).1.trans (h2 i (by omega)).1, (h3 i hi).2.trans (h2 i (by omega)).2⟩, by have := h2 k h1; omega⟩
    · rcases Nat.lt_trichotomy k j with q | rfl | q
      · exact Or.inr ⟨k, h1, fun i hi => ⟨(h3 i hi).1.trans (g3 i (by omega)).1, (h3 i hi).2.trans (g3 i (by omega)).2⟩, by have := g3 k q; omega⟩
      · exact Or.inr ⟨k, h1, fun i hi => ⟨(h3 i hi).1.trans (g3 i hi).1, (h3 i hi).2.trans (g3 i hi).2⟩, by omega⟩
      · exact Or.inr ⟨j, g1, fun i hi => ⟨(h3 i (by omega)).1.trans (g3 i hi).1, (h3 i (by omega)).2.trans (g3 i hi).2⟩, by have := h3 j q; omega⟩
section ORD
variable {l : Launch} {D : gD} {s0 : State} {M : gH} {z : Nat} {ad : gA} {Q : CS} {N : MS}
theorem k_fm (h0 : g_0 l D s0) (M : gH) {n f k : Nat} {s : Int32} (hn : n ≤ 24) (hf : f < n) (hk : k < n) (hs : s = 1 ∨ s = -1) : Ct l D s0 y_Mt_floorMod (Cond.code y_Mt_floorMod b_Mt_floorMod 3 (some .int)) (rk 0 0 0) [.int (nI f + s * nI k), .int (nI n)] M (fR (some (.int (nI (oix n f s k)))) M) := by
  have := m_fmod h0 M (nI f + s * nI k) (nI n) (fun q => by have := congrArg Int32.toInt q; rw [nI_toInt (by omega), show (0 : Int32).toInt = 0 by decide] at this; omega)
  rw [oix_fm hn hf hk hs] at this
  exact this
theorem k_orderedIndex (h0 : g_0 l D s0) (hS : HS z ad Q N M) {s t f k : Nat} (hs : s < Q.nS) (ht : t < 8) (hc : (Q.sh s).cnt ≤ 24) {p : Int32} (hfi : (Q.sh s).fi t = nI f) (hst : (Q.sh s).st t = p) (hf : f < (Q.sh s).cnt) (hp : p = 1 ∨ p = -1) (hk : k < (Q.sh s).cnt) : Ct l D s0 y_Sh_orderedIndex (Cond.code y_Sh_orderedIndex b_Sh_orderedIndex 3 (some .int)) (rk 1 0 0) [.ref (ad 18 s), .int (nI t), .int (nI k)] M (fR (some (.int (nI (oix (Q.sh s).cnt f p k)))) M) := by
  refine Ct.of h0 (by decide +kernel) rfl fun X hX h => ?_
  obtain ⟨p_, l', e_, R_, s_, m_, ar_, be_, me_, c_⟩ := X
  obtain rfl : l' = l := hX
  refine ri_aload_n h d_Sh_orderedIndex_0 rfl ?_
  refine ri_get h d_Sh_orderedIndex_1 fl_Sh_43 (by first | assumption | exact hS.sh_of (by first | assumption | omega) (by assumption) | exact hS.sh (by first | assumption | omega) | exact gup_s) (by rfl) ?_
  first | refine ri_ifB_ne h 11 d_Sh_orderedIndex_4 (by decide) (fun c_4 => ?_) (fun c_4 => ?_) | refine ri_ifN_ne h 11 d_Sh_orderedIndex_4 (by decide) (by omega) (fun c_4 => ?_) (fun c_4 => ?_) | refine ri_if_ne h 11 d_Sh_orderedIndex_4 (by decide) (fun c_4 => ?_) (fun c_4 => ?_)
  · refine ri_aload_n h d_Sh_orderedIndex_11 rfl ?_
    refine ri_get h d_Sh_orderedIndex_12 fl_Sh_25 (by first | assumption | exact hS.sh_of (by first | assumption | omega) (by assumption) | exact hS.sh (by first | assumption | omega) | exact gup_s) (by rfl) ?_
    refine ri_iload_n h d_Sh_orderedIndex_15 rfl ?_
    refine ri_ialdE h _ d_Sh_orderedIndex_16 (hS.shf hs) rfl ht (by decide) hfi ?_
    refine ri_aload_n h d_Sh_orderedIndex_17 rfl ?_
    refine ri_get h d_Sh_orderedIndex_18 fl_Sh_29 (by first | assumption | exact hS.sh_of (by first | assumption | omega) (by assumption) | exact hS.sh (by first | assumption | omega) | exact gup_s) (by rfl) ?_
    refine ri_iload_n h d_Sh_orderedIndex_21 rfl ?_
    refine ri_ialdE h _ d_Sh_orderedIndex_22 (hS.sht hs) rfl ht (by decide) hst ?_
    refine ri_iload_n h d_Sh_orderedIndex_23 rfl ?_
    refine ri_imul h d_Sh_orderedIndex_24 ?_
    refine ri_iadd h d_Sh_orderedIndex_25 ?_
    refine ri_aload_n h d_Sh_orderedIndex_26 rfl ?_
    refine ri_get h d_Sh_orderedIndex_27 fl_Sh_43 (by first | assumption | exact hS.sh_of (by first | assumption | omega) (by assumption) | exact hS.sh (by first | assumption | omega) | exact gup_s) (by rfl) ?_
    refine ri_cSv_2 h d_Sh_orderedIndex_30 cs_Sh_95 (k_fm h0 _ hc hf hk hp) (Nat.le_of_ble_eq_true rfl) (Nat.le_of_ble_eq_true rfl) (Nat.le_of_ble_eq_true rfl) (Nat.le_of_ble_eq_true rfl) (Nat.le_of_ble_eq_true rfl) ?_
    refine ri_ireturn h d_Sh_orderedIndex_33 (Nat.le_of_ble_eq_true rfl) (Nat.le_of_ble_eq_true rfl) ?_
    exact ⟨rfl, rfl⟩
  · omega
/-- one order taken for another -/
theorem k_take (h0 : g_0 l D s0) (hS : HS z ad Q N M) {s t f g : Nat} {p' p : Int32} (hs : s < Q.nS) (ht : t < 8) (hc : (Q.sh s).cnt ≤ 24) (hfi : (Q.sh s).fi t = nI f) (hst : (Q.sh s).st t = p') (hf : f < (Q.sh s).cnt) (hp' : p' = 1 ∨ p' = -1) (hg : g < (Q.sh s).cnt) (hp : p = 1 ∨ p = -1) : Ct l D s0 y_Sh_takeIfLess (Cond.code y_Sh_takeIfLess b_Sh_takeIfLess 8 none) (rk 2 0 0) [.ref (ad 18 s), .int (nI t), .int (nI g), .int p] M (fS none (fun M' => ∃ (f1 : Nat) (p1 : Int32), ((f1 = f ∧ p1 = p') ∨ (f1 = g ∧ p1 = p)) ∧ lexLe (Q.sh s).cnt (cX (Q.sh s) t f1 p1) (cY (Q.sh s) t f1 p1) (cX (Q.sh s) t f p') (cY (Q.sh s) t f p') ∧ lexLe (Q.sh s).cnt (cX (Q.sh s) t f1 p1) (cY (Q.sh s) t f1 p1) (cX (Q.sh s) t g p) (cY (Q.sh s) t g p) ∧ HS z ad (Q.set_sh (va_up Q.sh s (((Q.sh s).set_fi (va_up (Q.sh s).fi t (nI f1))).set_st (va_up (Q.sh s).st t p1)))) N M')) := by
  have hn0 : 0 < (Q.sh s).cnt := by omega
  have hno : HS z ad (Q.set_sh (va_up Q.sh s (((Q.sh s).set_fi (va_up (Q.sh s).fi t (nI f))).set_st (va_up (Q.sh s).st t p')))) N M := by
    have e1 : va_up (Q.sh s).fi t (nI f) = (Q.sh s).fi := by rw [← hfi, va_up_id]
    have e2 : va_up (Q.sh s).st t p' = (Q.sh s).st := by rw [← hst, va_up_id]
    rw [e1, e2]
    have e3 : va_up Q.sh s (((Q.sh s).set_fi (Q.sh s).fi).set_st (Q.sh s).st) = Q.sh := va_up_id
    rw [e3]
    exact hS
  refine Ct.of h0 (by decide +kernel) rfl fun X hX h => ?_
  obtain ⟨p_, l', e_, R_, s_, m_, ar_, be_, me_, c_⟩ := X
  obtain rfl : l' = l := hX
  have J137 : ∀ (sg : Int32), (sg = 0 ∧ (∀ j, j < (Q.sh s).cnt → cX (Q.sh s) t g p j = cX (Q.sh s) t f p' j ∧ cY (Q.sh s) t g p j = cY (Q.sh s) t f p' j)) ∨ (sg = -1 ∧ lexLt (Q.sh s).cnt (cX (Q.sh s) t g p) (cY (Q.sh s) t g p) (cX (Q.sh s) t f p') (cY (Q.sh s) t f p')) ∨ (sg = 1 ∧ lexLt (Q.sh s).cnt (cX (Q.sh s) t f p') (cY (Q.sh s) t f p') (cX (Q.sh s) t g p) (cY (Q.sh s) t g p)) → G (gzz D s0 (p_, l', e_, R_, s_, m_, ar_, be_, me_, c_) (rk 2 0 0) (fS none (fun M' => ∃ (f1 : Nat) (p1 : Int32), ((f1 = f ∧ p1 = p') ∨ (f1 = g ∧ p1 = p)) ∧ lexLe (Q.sh s).cnt (cX (Q.sh s) t f1 p1) (cY (Q.sh s) t f1 p1) (cX (Q.sh s) t f p') (cY (Q.sh s) t f p') ∧ lexLe (Q.sh s).cnt (cX (Q.sh s) t f1 p1) (cY (Q.sh s) t f1 p1) (cX (Q.sh s) t g p) (cY (Q.sh s) t g p) ∧ HS z ad (Q.set_sh (va_up Q.sh s (((Q.sh s).set_fi (va_up (Q.sh s).fi t (nI f1))).set_st (va_up (Q.sh s).st t p1)))) N M')) 8) 137 [(0, .ref (ad 18 s)), (1, .int (nI t)), (2, .int (nI g)), (3, .int p), (4, .int sg)] [] M 0 0 := by
    intro sg hsg
    rcases hsg with ⟨rfl, hq⟩ | ⟨rfl, hq⟩ | ⟨rfl, hq⟩
    · refine ri_iload h d_Sh_takeIfLess_137 rfl ?_
      refine ri_if_ge h 156 d_Sh_takeIfLess_139 (by decide) (fun c_139 => ?_) (fun c_139 => ?_)
      · refine ri_return h d_Sh_takeIfLess_156 (Nat.le_of_ble_eq_true rfl) (Nat.le_of_ble_eq_true rfl) ?_
        exact ⟨rfl, f, p', Or.inl ⟨rfl, rfl⟩, lexLe.refl, Or.inl fun j hj => ⟨(hq j hj).1.symm, (hq j hj).2.symm⟩, hno⟩
      · exact absurd c_139 (by decide)
    · refine ri_iload h d_Sh_takeIfLess_137 rfl ?_
      refine ri_if_ge h 156 d_Sh_takeIfLess_139 (by decide) (fun c_139 => ?_) (fun c_139 => ?_)
      · exact absurd c_139 (by decide)
      · have h_sh : Q.sh s = Q.sh s := rfl
        refine ri_aload_n h d_Sh_takeIfLess_142 rfl ?_
        refine ri_get h d_Sh_takeIfLess_143 fl_Sh_25 (by first | assumption | exact hS.sh_of (by first | assumption | omega) (by assumption) | exact hS.sh (by first | assumption | omega) | exact gup_s) (by rfl) ?_
        refine ri_iload_n h d_Sh_takeIfLess_146 rfl ?_
        refine ri_iload_n h d_Sh_takeIfLess_147 rfl ?_
        refine ri_iast h _ d_Sh_takeIfLess_148 (by first | assumption | exact hS.shf_of (by first | assumption | omega) (by assumption) | exact hS.shf (by first | assumption | omega)) (by first | rfl | assumption) (by first | assumption | omega) (by first | decide | omega) ?_
        refine ri_gH2 (hS.p_shf (by first | assumption | omega) (by first | assumption | rfl) _) (fun M hS h_sh => ?_)
        refine ri_aload_n h d_Sh_takeIfLess_149 rfl ?_
        refine ri_get h d_Sh_takeIfLess_150 fl_Sh_29 (by first | assumption | exact hS.sh_of (by first | assumption | omega) (by assumption) | exact hS.sh (by first | assumption | omega) | exact gup_s) (by rfl) ?_
        refine ri_iload_n h d_Sh_takeIfLess_153 rfl ?_
        refine ri_iload_n h d_Sh_takeIfLess_154 rfl ?_
        refine ri_iast h _ d_Sh_takeIfLess_155 (by first | assumption | exact hS.sht_of (by first | assumption | omega) (by assumption) | exact hS.sht (by first | assumption | omega)) (by first | rfl | assumption) (by first | assumption | omega) (by first | decide | omega) ?_
        refine ri_gH2 (hS.p_sht (by first | assumption | omega) (by first | assumption | rfl) _) (fun M hS h_sh => ?_)
        refine ri_return h d_Sh_takeIfLess_156 (Nat.le_of_ble_eq_true rfl) (Nat.le_of_ble_eq_true rfl) ?_
        refine ⟨rfl, g, p, Or.inr ⟨rfl, rfl⟩, Or.inr hq, lexLe.refl, ?_⟩
        have hS := hS.sh2
        exact hS
    · refine ri_iload h d_Sh_takeIfLess_137 rfl ?_
      refine ri_if_ge h 156 d_Sh_takeIfLess_139 (by decide) (fun c_139 => ?_) (fun c_139 => ?_)
      · refine ri_return h d_Sh_takeIfLess_156 (Nat.le_of_ble_eq_true rfl) (Nat.le_of_ble_eq_true rfl) ?_
        exact ⟨rfl, f, p', Or.inl ⟨rfl, rfl⟩, lexLe.refl, Or.inr hq, hno⟩
      · exact absurd c_139 (by decide)
  have J6 : ∀ (q k : Nat), k + q = (Q.sh s).cnt → (∀ j, j < k → cX (Q.sh s) t g p j = cX (Q.sh s) t f p' j ∧ cY (Q.sh s) t g p j = cY (Q.sh s) t f p' j) → G (gzz D s0 (p_, l', e_, R_, s_, m_, ar_, be_, me_, c_) (rk 2 0 0) (fS none (fun M' => ∃ (f1 : Nat) (p1 : Int32), ((f1 = f ∧ p1 = p') ∨ (f1 = g ∧ p1 = p)) ∧ lexLe (Q.sh s).cnt (cX (Q.sh s) t f1 p1) (cY (Q.sh s) t f1 p1) (cX (Q.sh s) t f p') (cY (Q.sh s) t f p') ∧ lexLe (Q.sh s).cnt (cX (Q.sh s) t f1 p1) (cY (Q.sh s) t f1 p1) (cX (Q.sh s) t g p) (cY (Q.sh s) t g p) ∧ HS z ad (Q.set_sh (va_up Q.sh s (((Q.sh s).set_fi (va_up (Q.sh s).fi t (nI f1))).set_st (va_up (Q.sh s).st t p1)))) N M')) 8) 6 [(0, .ref (ad 18 s)), (1, .int (nI t)), (2, .int (nI g)), (3, .int p), (4, .int 0), (5, .int (nI k))] [] M 0 0 := by
    intro q
    induction q with
    | zero =>
      intro k hk hq
      refine ri_iload h d_Sh_takeIfLess_6 rfl ?_
      refine ri_aload_n h d_Sh_takeIfLess_8 rfl ?_
      refine ri_get h d_Sh_takeIfLess_9 fl_Sh_43 (by first | assumption | exact hS.sh_of (by first | assumption | omega) (by assumption) | exact hS.sh (by first | assumption | omega) | exact gup_s) (by rfl) ?_
      first | refine ri_icmpN_ge h 137 d_Sh_takeIfLess_12 (by decide) (by omega) (by omega) (fun c_12 => ?_) (fun c_12 => ?_) | refine ri_icmp_ge h 137 d_Sh_takeIfLess_12 (by decide) (fun c_12 => ?_) (fun c_12 => ?_)
      · exact ri_ls [(0, .ref (ad 18 s)), (1, .int (nI t)), (2, .int (nI g)), (3, .int p), (4, .int 0)] ⟨rfl, rfl, rfl, rfl, rfl, trivial⟩ (J137 0 (Or.inl ⟨rfl, fun j hj => hq j (by omega)⟩))
      · omega
    | succ q ih =>
      intro k hk hq
      have hkc : k < (Q.sh s).cnt := by omega
      have o1 : oix (Q.sh s).cnt g p k < 24 := Nat.lt_of_lt_of_le (oix_lt hn0) hc
      have o2 : oix (Q.sh s).cnt f p' k < 24 := Nat.lt_of_lt_of_le (oix_lt hn0) hc
      have JE : ∀ (sg : Int32), (sg = -1 ∧ lexLt (Q.sh s).cnt (cX (Q.sh s) t g p) (cY (Q.sh s) t g p) (cX (Q.sh s) t f p') (cY (Q.sh s) t f p')) ∨ (sg = 1 ∧ lexLt (Q.sh s).cnt (cX (Q.sh s) t f p') (cY (Q.sh s) t f p') (cX (Q.sh s) t g p) (cY (Q.sh s) t g p)) → G (gzz D s0 (p_, l', e_, R_, s_, m_, ar_, be_, me_, c_) (rk 2 0 0) (fS none (fun M' => ∃ (f1 : Nat) (p1 : Int32), ((f1 = f ∧ p1 = p') ∨ (f1 = g ∧ p1 = p)) ∧ lexLe (Q.sh s).cnt (cX (Q.sh s) t f1 p1) (cY (Q.sh s) t f1 p1) (cX (Q.sh s) t f p') (cY (Q.sh s) t f p') ∧ lexLe (Q.sh s).cnt (cX (Q.sh s) t f1 p1) (cY (Q.sh s) t f1 p1) (cX (Q.sh s) t g p) (cY (Q.sh s) t g p) ∧ HS z ad (Q.set_sh (va_up Q.sh s (((Q.sh s).set_fi (va_up (Q.sh s).fi t (nI f1))).set_st (va_up (Q.sh s).st t p1)))) N M')) 8) 6 [(0, .ref (ad 18 s)), (1, .int (nI t)), (2, .int (nI g)), (3, .int p), (4, .int sg), (5, .int (nI (k + 1)))] [] M 0 0 := by
        intro sg hsg
        have hne : ¬ sg = 0 := by
          rcases hsg with ⟨rfl, -⟩ | ⟨rfl, -⟩ <;> decide
        refine ri_iload h d_Sh_takeIfLess_6 rfl ?_
        refine ri_aload_n h d_Sh_takeIfLess_8 rfl ?_
        refine ri_get h d_Sh_takeIfLess_9 fl_Sh_43 (by first | assumption | exact hS.sh_of (by first | assumption | omega) (by assumption) | exact hS.sh (by first | assumption | omega) | exact gup_s) (by rfl) ?_
        first | refine ri_icmpN_ge h 137 d_Sh_takeIfLess_12 (by decide) (by omega) (by omega) (fun c_12 => ?_) (fun c_12 => ?_) | refine ri_icmp_ge h 137 d_Sh_takeIfLess_12 (by decide) (fun c_12 => ?_) (fun c_12 => ?_)
        · exact ri_ls [(0, .ref (ad 18 s)), (1, .int (nI t)), (2, .int (nI g)), (3, .int p), (4, .int sg)] ⟨rfl, rfl, rfl, rfl, rfl, trivial⟩ (J137 sg (Or.inr hsg))
        · refine ri_iload h d_Sh_takeIfLess_15 rfl ?_
          refine ri_if_ne h 137 d_Sh_takeIfLess_17 (by decide) (fun c_17 => ?_) (fun c_17 => ?_)
          · exact ri_ls [(0, .ref (ad 18 s)), (1, .int (nI t)), (2, .int (nI g)), (3, .int p), (4, .int sg)] ⟨rfl, rfl, rfl, rfl, rfl, trivial⟩ (J137 sg (Or.inr hsg))
          · contradiction
      refine ri_iload h d_Sh_takeIfLess_6 rfl ?_
      refine ri_aload_n h d_Sh_takeIfLess_8 rfl ?_
      refine ri_get h d_Sh_takeIfLess_9 fl_Sh_43 (by first | assumption | exact hS.sh_of (by first | assumption | omega) (by assumption) | exact hS.sh (by first | assumption | omega) | exact gup_s) (by rfl) ?_
      first | refine ri_icmpN_ge h 137 d_Sh_takeIfLess_12 (by decide) (by omega) (by omega) (fun c_12 => ?_) (fun c_12 => ?_) | refine ri_icmp_ge h 137 d_Sh_takeIfLess_12 (by decide) (fun c_12 => ?_) (fun c_12 => ?_)
      · omega
      · refine ri_iload h d_Sh_takeIfLess_15 rfl ?_
        refine ri_if_ne h 137 d_Sh_takeIfLess_17 (by decide) (fun c_17 => ?_) (fun c_17 => ?_)
        · exact absurd rfl c_17
        · refine ri_iload_n h d_Sh_takeIfLess_20 rfl ?_
          refine ri_iload_n h d_Sh_takeIfLess_21 rfl ?_
          refine ri_iload h d_Sh_takeIfLess_22 rfl ?_
          refine ri_imul h d_Sh_takeIfLess_24 ?_
          refine ri_iadd h d_Sh_takeIfLess_25 ?_
          refine ri_aload_n h d_Sh_takeIfLess_26 rfl ?_
          refine ri_get h d_Sh_takeIfLess_27 fl_Sh_43 (by first | assumption | exact hS.sh_of (by first | assumption | omega) (by assumption) | exact hS.sh (by first | assumption | omega) | exact gup_s) (by rfl) ?_
          refine ri_cSv_2 h d_Sh_takeIfLess_30 cs_Sh_95 (k_fm h0 _ hc hg hkc hp) (Nat.le_of_ble_eq_true rfl) (Nat.le_of_ble_eq_true rfl) (Nat.le_of_ble_eq_true rfl) (Nat.le_of_ble_eq_true rfl) (Nat.le_of_ble_eq_true rfl) ?_
          refine ri_istore h d_Sh_takeIfLess_33 (Nat.le_of_ble_eq_true rfl) ?_
          refine ri_aload_n h d_Sh_takeIfLess_35 rfl ?_
          refine ri_iload_n h d_Sh_takeIfLess_36 rfl ?_
          refine ri_iload h d_Sh_takeIfLess_37 rfl ?_
          refine ri_cVv_2 (r := (gR4, gT4, 10)) h d_Sh_takeIfLess_39 cv_Sh_99 (by first | exact hS.lcO | exact hS.lsO | exact hS.lpO | exact hS.cesO (by first | assumption | omega) | exact hS.cepO (by first | assumption | omega) | exact ⟨_, (by first | assumption | exact hS.st | exact hS.mo | exact hS.out | exact hS.sb | exact hS.ce (by first | assumption | omega) | exact hS.ceb (by first | assumption | omega) | exact hS.sh (by first | assumption | omega) | exact hS.shb (by first | assumption | omega) | exact hS.pl (by first | assumption | omega) | exact hS.plb (by first | assumption | omega) | exact hS.fl (by first | assumption | omega) | exact gup_s | (refine gup_t (by assumption) ?_; first | assumption | exact gup_s | (refine gup_t (by assumption) ?_; first | assumption | exact gup_s | (refine gup_t (by assumption) ?_; first | assumption | exact gup_s))))⟩) rfl (k_orderedIndex h0 hS hs ht hc hfi hst hf hp' hkc) (Nat.le_of_ble_eq_true rfl) (Nat.le_of_ble_eq_true rfl) (Nat.le_of_ble_eq_true rfl) (Nat.le_of_ble_eq_true rfl) (Nat.le_of_ble_eq_true rfl) ?_
          refine ri_istore h d_Sh_takeIfLess_42 (Nat.le_of_ble_eq_true rfl) ?_
          refine ri_iload_n h d_Sh_takeIfLess_44 rfl ?_
          refine ri_aload_n h d_Sh_takeIfLess_45 rfl ?_
          refine ri_get h d_Sh_takeIfLess_46 fl_Sh_9 (by first | assumption | exact hS.sh_of (by first | assumption | omega) (by assumption) | exact hS.sh (by first | assumption | omega) | exact gup_s) (by rfl) ?_
          refine ri_iload h d_Sh_takeIfLess_49 rfl ?_
          refine ri_lald h _ d_Sh_takeIfLess_51 (by first | assumption | exact hS.shx_of (by first | assumption | omega) (by assumption) | exact hS.shx (by first | assumption | omega)) (by first | rfl | assumption) (by first | assumption | omega) (by first | decide | omega) ?_
          refine ri_aload_n h d_Sh_takeIfLess_52 rfl ?_
          refine ri_get h d_Sh_takeIfLess_53 fl_Sh_15 (by first | assumption | exact hS.sh_of (by first | assumption | omega) (by assumption) | exact hS.sh (by first | assumption | omega) | exact gup_s) (by rfl) ?_
          refine ri_iload h d_Sh_takeIfLess_56 rfl ?_
          refine ri_lald h _ d_Sh_takeIfLess_58 (by first | assumption | exact hS.shy_of (by first | assumption | omega) (by assumption) | exact hS.shy (by first | assumption | omega)) (by first | rfl | assumption) (by first | assumption | omega) (by first | decide | omega) ?_
          refine ri_cSNv_3 h d_Sh_takeIfLess_59 cs_Sh_102 (k_turnedX h0 _ (by first | assumption | omega) _ _) (Nat.le_of_ble_eq_true rfl) (Nat.le_of_ble_eq_true rfl) (Nat.le_of_ble_eq_true rfl) (Nat.le_of_ble_eq_true rfl) (Nat.le_of_ble_eq_true rfl) ?_
          refine ri_iload_n h d_Sh_takeIfLess_62 rfl ?_
          refine ri_aload_n h d_Sh_takeIfLess_63 rfl ?_
          refine ri_get h d_Sh_takeIfLess_64 fl_Sh_9 (by first | assumption | exact hS.sh_of (by first | assumption | omega) (by assumption) | exact hS.sh (by first | assumption | omega) | exact gup_s) (by rfl) ?_
          refine ri_iload h d_Sh_takeIfLess_67 rfl ?_
          refine ri_lald h _ d_Sh_takeIfLess_69 (by first | assumption | exact hS.shx_of (by first | assumption | omega) (by assumption) | exact hS.shx (by first | assumption | omega)) (by first | rfl | assumption) (by first | assumption | omega) (by first | decide | omega) ?_
          refine ri_aload_n h d_Sh_takeIfLess_70 rfl ?_
          refine ri_get h d_Sh_takeIfLess_71 fl_Sh_15 (by first | assumption | exact hS.sh_of (by first | assumption | omega) (by assumption) | exact hS.sh (by first | assumption | omega) | exact gup_s) (by rfl) ?_
          refine ri_iload h d_Sh_takeIfLess_74 rfl ?_
          refine ri_lald h _ d_Sh_takeIfLess_76 (by first | assumption | exact hS.shy_of (by first | assumption | omega) (by assumption) | exact hS.shy (by first | assumption | omega)) (by first | rfl | assumption) (by first | assumption | omega) (by first | decide | omega) ?_
          refine ri_cSNv_3 h d_Sh_takeIfLess_77 cs_Sh_102 (k_turnedX h0 _ (by first | assumption | omega) _ _) (Nat.le_of_ble_eq_true rfl) (Nat.le_of_ble_eq_true rfl) (Nat.le_of_ble_eq_true rfl) (Nat.le_of_ble_eq_true rfl) (Nat.le_of_ble_eq_true rfl) ?_
          refine ri_cSv_2 h d_Sh_takeIfLess_80 cs_Sh_106 (m_jcmp h0 _ _ _) (Nat.le_of_ble_eq_true rfl) (Nat.le_of_ble_eq_true rfl) (Nat.le_of_ble_eq_true rfl) (Nat.le_of_ble_eq_true rfl) (Nat.le_of_ble_eq_true rfl) ?_
          have hcx1 : (tX t ((Q.sh s).xs (oix (Q.sh s).cnt g p k)) ((Q.sh s).ys (oix (Q.sh s).cnt g p k))).toInt = cX (Q.sh s) t g p k := rfl
          have hcx2 : (tX t ((Q.sh s).xs (oix (Q.sh s).cnt f p' k)) ((Q.sh s).ys (oix (Q.sh s).cnt f p' k))).toInt = cX (Q.sh s) t f p' k := rfl
          have hcy1 : (tY t ((Q.sh s).xs (oix (Q.sh s).cnt g p k)) ((Q.sh s).ys (oix (Q.sh s).cnt g p k))).toInt = cY (Q.sh s) t g p k := rfl
          have hcy2 : (tY t ((Q.sh s).xs (oix (Q.sh s).cnt f p' k)) ((Q.sh s).ys (oix (Q.sh s).cnt f p' k))).toInt = cY (Q.sh s) t f p' k := rfl
          rcases jcmp_c (tX t ((Q.sh s).xs (oix (Q.sh s).cnt g p k)) ((Q.sh s).ys (oix (Q.sh s).cnt g p k))) (tX t ((Q.sh s).xs (oix (Q.sh s).cnt f p' k)) ((Q.sh s).ys (oix (Q.sh s).cnt f p' k))) with ⟨e, he⟩ | ⟨e, he⟩ | ⟨e, he⟩ <;> rw [e]
          · rw [hcx1, hcx2] at he
            refine ri_istore h d_Sh_takeIfLess_83 (Nat.le_of_ble_eq_true rfl) ?_
            refine ri_iload h d_Sh_takeIfLess_85 rfl ?_
            refine ri_if_ne h 131 d_Sh_takeIfLess_87 (by decide) (fun c_87 => ?_) (fun c_87 => ?_)
            · first | refine ri_iincN h d_Sh_takeIfLess_131 rfl (Nat.le_of_ble_eq_true rfl) ?_ | refine ri_iinc h _ d_Sh_takeIfLess_131 rfl rfl (Nat.le_of_ble_eq_true rfl) ?_
              refine ri_goto h 6 d_Sh_takeIfLess_134 (by decide) ?_
              exact ri_ls [(0, .ref (ad 18 s)), (1, .int (nI t)), (2, .int (nI g)), (3, .int p), (4, .int (-1)), (5, .int (nI (k + 1)))] ⟨rfl, rfl, rfl, rfl, rfl, rfl, trivial⟩ (JE (-1) (Or.inl ⟨rfl, k, hkc, hq, Or.inl he⟩))
            · exact absurd c_87 (by decide)
          · have he := congrArg Int64.toInt he
            rw [hcx1, hcx2] at he
            refine ri_istore h d_Sh_takeIfLess_83 (Nat.le_of_ble_eq_true rfl) ?_
            refine ri_iload h d_Sh_takeIfLess_85 rfl ?_
            refine ri_if_ne h 131 d_Sh_takeIfLess_87 (by decide) (fun c_87 => ?_) (fun c_87 => ?_)
            · exact absurd rfl c_87
            · refine ri_iload_n h d_Sh_takeIfLess_90 rfl ?_
              refine ri_aload_n h d_Sh_takeIfLess_91 rfl ?_
              refine ri_get h d_Sh_takeIfLess_92 fl_Sh_9 (by first | assumption | exact hS.sh_of (by first | assumption | omega) (by assumption) | exact hS.sh (by first | assumption | omega) | exact gup_s) (by rfl) ?_
              refine ri_iload h d_Sh_takeIfLess_95 rfl ?_
              refine ri_lald h _ d_Sh_takeIfLess_97 (by first | assumption | exact hS.shx_of (by first | assumption | omega) (by assumption) | exact hS.shx (by first | assumption | omega)) (by first | rfl | assumption) (by first | assumption | omega) (by first | decide | omega) ?_
              refine ri_aload_n h d_Sh_takeIfLess_98 rfl ?_
              refine ri_get h d_Sh_takeIfLess_99 fl_Sh_15 (by first | assumption | exact hS.sh_of (by first | assumption | omega) (by assumption) | exact hS.sh (by first | assumption | omega) | exact gup_s) (by rfl) ?_
              refine ri_iload h d_Sh_takeIfLess_102 rfl ?_
              refine ri_lald h _ d_Sh_takeIfLess_104 (by first | assumption | exact hS.shy_of (by first | assumption | omega) (by assumption) | exact hS.shy (by first | assumption | omega)) (by first | rfl | assumption) (by first | assumption | omega) (by first | decide | omega) ?_
              refine ri_cSNv_3 h d_Sh_takeIfLess_105 cs_Sh_110 (k_turnedY h0 _ (by first | assumption | omega) _ _) (Nat.le_of_ble_eq_true rfl) (Nat.le_of_ble_eq_true rfl) (Nat.le_of_ble_eq_true rfl) (Nat.le_of_ble_eq_true rfl) (Nat.le_of_ble_eq_true rfl) ?_
              refine ri_iload_n h d_Sh_takeIfLess_108 rfl ?_
              refine ri_aload_n h d_Sh_takeIfLess_109 rfl ?_
              refine ri_get h d_Sh_takeIfLess_110 fl_Sh_9 (by first | assumption | exact hS.sh_of (by first | assumption | omega) (by assumption) | exact hS.sh (by first | assumption | omega) | exact gup_s) (by rfl) ?_
              refine ri_iload h d_Sh_takeIfLess_113 rfl ?_
              refine ri_lald h _ d_Sh_takeIfLess_115 (by first | assumption | exact hS.shx_of (by first | assumption | omega) (by assumption) | exact hS.shx (by first | assumption | omega)) (by first | rfl | assumption) (by first | assumption | omega) (by first | decide | omega) ?_
              refine ri_aload_n h d_Sh_takeIfLess_116 rfl ?_
              refine ri_get h d_Sh_takeIfLess_117 fl_Sh_15 (by first | assumption | exact hS.sh_of (by first | assumption | omega) (by assumption) | exact hS.sh (by first | assumption | omega) | exact gup_s) (by rfl) ?_
              refine ri_iload h d_Sh_takeIfLess_120 rfl ?_
              refine ri_lald h _ d_Sh_takeIfLess_122 (by first | assumption | exact hS.shy_of (by first | assumption | omega) (by assumption) | exact hS.shy (by first | assumption | omega)) (by first | rfl | assumption) (by first | assumption | omega) (by first | decide | omega) ?_
              refine ri_cSNv_3 h d_Sh_takeIfLess_123 cs_Sh_110 (k_turnedY h0 _ (by first | assumption | omega) _ _) (Nat.le_of_ble_eq_true rfl) (Nat.le_of_ble_eq_true rfl) (Nat.le_of_ble_eq_true rfl) (Nat.le_of_ble_eq_true rfl) (Nat.le_of_ble_eq_true rfl) ?_
              refine ri_cSv_2 h d_Sh_takeIfLess_126 cs_Sh_106 (m_jcmp h0 _ _ _) (Nat.le_of_ble_eq_true rfl) (Nat.le_of_ble_eq_true rfl) (Nat.le_of_ble_eq_true rfl) (Nat.le_of_ble_eq_true rfl) (Nat.le_of_ble_eq_true rfl) ?_
              rcases jcmp_c (tY t ((Q.sh s).xs (oix (Q.sh s).cnt g p k)) ((Q.sh s).ys (oix (Q.sh s).cnt g p k))) (tY t ((Q.sh s).xs (oix (Q.sh s).cnt f p' k)) ((Q.sh s).ys (oix (Q.sh s).cnt f p' k))) with ⟨e, he2⟩ | ⟨e, he2⟩ | ⟨e, he2⟩ <;> rw [e]
              · rw [hcy1, hcy2] at he2
                refine ri_istore h d_Sh_takeIfLess_129 (Nat.le_of_ble_eq_true rfl) ?_
                first | refine ri_iincN h d_Sh_takeIfLess_131 rfl (Nat.le_of_ble_eq_true rfl) ?_ | refine ri_iinc h _ d_Sh_takeIfLess_131 rfl rfl (Nat.le_of_ble_eq_true rfl) ?_
                refine ri_goto h 6 d_Sh_takeIfLess_134 (by decide) ?_
                exact ri_ls [(0, .ref (ad 18 s)), (1, .int (nI t)), (2, .int (nI g)), (3, .int p), (4, .int (-1)), (5, .int (nI (k + 1)))] ⟨rfl, rfl, rfl, rfl, rfl, rfl, trivial⟩ (JE (-1) (Or.inl ⟨rfl, k, hkc, hq, Or.inr ⟨he, he2⟩⟩))
              · have he2 := congrArg Int64.toInt he2
                rw [hcy1, hcy2] at he2
                refine ri_istore h d_Sh_takeIfLess_129 (Nat.le_of_ble_eq_true rfl) ?_
                first | refine ri_iincN h d_Sh_takeIfLess_131 rfl (Nat.le_of_ble_eq_true rfl) ?_ | refine ri_iinc h _ d_Sh_takeIfLess_131 rfl rfl (Nat.le_of_ble_eq_true rfl) ?_
                refine ri_goto h 6 d_Sh_takeIfLess_134 (by decide) ?_
                refine ri_ls [(0, .ref (ad 18 s)), (1, .int (nI t)), (2, .int (nI g)), (3, .int p), (4, .int 0), (5, .int (nI (k + 1)))] ⟨rfl, rfl, rfl, rfl, rfl, rfl, trivial⟩ (ih (k + 1) (by omega) (fun j hj => ?_))
                rcases Nat.lt_or_eq_of_le (Nat.lt_succ_iff.mp hj) with hj | rfl
                · exact hq j hj
                · exact ⟨he, he2⟩
              · rw [hcy1, hcy2] at he2
                refine ri_istore h d_Sh_takeIfLess_129 (Nat.le_of_ble_eq_true rfl) ?_
                first | refine ri_iincN h d_Sh_takeIfLess_131 rfl (Nat.le_of_ble_eq_true rfl) ?_ | refine ri_iinc h _ d_Sh_takeIfLess_131 rfl rfl (Nat.le_of_ble_eq_true rfl) ?_
                refine ri_goto h 6 d_Sh_takeIfLess_134 (by decide) ?_
                exact ri_ls [(0, .ref (ad 18 s)), (1, .int (nI t)), (2, .int (nI g)), (3, .int p), (4, .int 1), (5, .int (nI (k + 1)))] ⟨rfl, rfl, rfl, rfl, rfl, rfl, trivial⟩ (JE 1 (Or.inr ⟨rfl, k, hkc, fun j hj => ⟨(hq j hj).1.symm, (hq j hj).2.symm⟩, Or.inr ⟨he.symm, he2⟩⟩))
          · rw [hcx1, hcx2] at he
            refine ri_istore h d_Sh_takeIfLess_83 (Nat.le_of_ble_eq_true rfl) ?_
            refine ri_iload h d_Sh_takeIfLess_85 rfl ?_
            refine ri_if_ne h 131 d_Sh_takeIfLess_87 (by decide) (fun c_87 => ?_) (fun c_87 => ?_)
            · first | refine ri_iincN h d_Sh_takeIfLess_131 rfl (Nat.le_of_ble_eq_true rfl) ?_ | refine ri_iinc h _ d_Sh_takeIfLess_131 rfl rfl (Nat.le_of_ble_eq_true rfl) ?_
              refine ri_goto h 6 d_Sh_takeIfLess_134 (by decide) ?_
              exact ri_ls [(0, .ref (ad 18 s)), (1, .int (nI t)), (2, .int (nI g)), (3, .int p), (4, .int 1), (5, .int (nI (k + 1)))] ⟨rfl, rfl, rfl, rfl, rfl, rfl, trivial⟩ (JE 1 (Or.inr ⟨rfl, k, hkc, fun j hj => ⟨(hq j hj).1.symm, (hq j hj).2.symm⟩, Or.inl he⟩))
            · exact absurd c_87 (by decide)
  refine ri_iconst h 0 d_Sh_takeIfLess_0 rfl ?_
  refine ri_istore h d_Sh_takeIfLess_1 (Nat.le_of_ble_eq_true rfl) ?_
  refine ri_iconstN h 0 d_Sh_takeIfLess_3 rfl ?_
  refine ri_istore h d_Sh_takeIfLess_4 (Nat.le_of_ble_eq_true rfl) ?_
  exact ri_ls [(0, .ref (ad 18 s)), (1, .int (nI t)), (2, .int (nI g)), (3, .int p), (4, .int 0), (5, .int (nI 0))] ⟨rfl, rfl, rfl, rfl, rfl, rfl, trivial⟩ (J6 (Q.sh s).cnt 0 (by omega) (fun j hj => by omega))
theorem ShR.fs2 (r : ShR) (a b c d : Nat → Int32) : (((r.set_fi a).set_st b).set_fi c).set_st d = (r.set_fi c).set_st d := rfl
theorem k_take2 (h0 : g_0 l D s0) {s : Nat} {r : ShR} {a b : Nat → Int32} (hS : HS z ad (Q.set_sh (va_up Q.sh s ((r.set_fi a).set_st b))) N M) {t f g : Nat} {p' p : Int32} (hs : s < Q.nS) (ht : t < 8) (hc : r.cnt ≤ 24) (hfi : a t = nI f) (hst : b t = p') (hf : f < r.cnt) (hp' : p' = 1 ∨ p' = -1) (hg : g < r.cnt) (hp : p = 1 ∨ p = -1) : Ct l D s0 y_Sh_takeIfLess (Cond.code y_Sh_takeIfLess b_Sh_takeIfLess 8 none) (rk 2 0 0) [.ref (ad 18 s), .int (nI t), .int (nI g), .int p] M (fS none (fun M' => ∃ (f1 : Nat) (p1 : Int32) (a1 b1 : Nat → Int32), ((f1 = f ∧ p1 = p') ∨ (f1 = g ∧ p1 = p)) ∧ lexLe r.cnt (cX r t f1 p1) (cY r t f1 p1) (cX r t f p') (cY r t f p') ∧ lexLe r.cnt (cX r t f1 p1) (cY r t f1 p1) (cX r t g p) (cY r t g p) ∧ HS z ad (Q.set_sh (va_up Q.sh s ((r.set_fi a1).set_st b1))) N M' ∧ a1 t = nI f1 ∧ b1 t = p1 ∧ ∀ u, u ≠ t → a1 u = a u ∧ b1 u = b u)) := by
  have hr : (Q.set_sh (va_up Q.sh s ((r.set_fi a).set_st b))).sh s = (r.set_fi a).set_st b := va_up_s
  refine (k_take (Q := Q.set_sh (va_up Q.sh s ((r.set_fi a).set_st b))) (s := s) (t := t) (f := f) (g := g) (p' := p') (p := p) h0 hS hs ht (by rw [hr]; exact hc) (by rw [hr]; exact hfi) (by rw [hr]; exact hst) (by rw [hr]; exact hf) hp' (by rw [hr]; exact hg) hp).mono (fun r' M' h => ?_)
  rw [hr] at h
  obtain ⟨e, f1, p1, q1, q2, q3, q4⟩ := h
  have q4 := HS.sh2 q4
  rw [ShR.fs2] at q4
  exact ⟨e, f1, p1, _, _, q1, q2, q3, q4, va_up_s, va_up_s, fun u hu => ⟨va_up_n hu, va_up_n hu⟩⟩
theorem k_settle (h0 : g_0 l D s0) (hS : HS z ad Q N M) {s t : Nat} (hs : s < Q.nS) (ht : t < 8) {r : ShR} (hr : Q.sh s = r) (hc : r.cnt ≤ 24) (hc0 : 0 < r.cnt) (hO : OrdOk r t) : Ct l D s0 y_Sh_settleOrder (Cond.code y_Sh_settleOrder b_Sh_settleOrder 3 none) (rk 3 0 0) [.ref (ad 18 s), .int (nI t)] M (fS none (fun M' => ∃ (a b : Nat → Int32), HS z ad (Q.set_sh (va_up Q.sh s ((r.set_fi a).set_st b))) N M' ∧ ¬ b t = 0 ∧ OrdOk ((r.set_fi a).set_st b) t ∧ ∀ u, u ≠ t → a u = r.fi u ∧ b u = r.st u)) := by
  by_cases h00 : r.st t = 0
  · refine Ct.of h0 (by decide +kernel) rfl fun X hX h => ?_
    obtain ⟨p_, l', e_, R_, s_, m_, ar_, be_, me_, c_⟩ := X
    obtain rfl : l' = l := hX
    have h_sh : Q.sh s = r := hr
    have hend : ∀ (M' : gH) (a b : Nat → Int32) (f : Nat) (p : Int32), HS z ad (Q.set_sh (va_up Q.sh s ((r.set_fi a).set_st b))) N M' → a t = nI f → b t = p → (∀ u, u ≠ t → a u = r.fi u ∧ b u = r.st u) → f < r.cnt → (p = 1 ∨ p = -1) → alw r f p → (∀ g q, alw r g q → lexLe r.cnt (cX r t f p) (cY r t f p) (cX r t g q) (cY r t g q)) → ∃ (a b : Nat → Int32), HS z ad (Q.set_sh (va_up Q.sh s ((r.set_fi a).set_st b))) N M' ∧ ¬ b t = 0 ∧ OrdOk ((r.set_fi a).set_st b) t ∧ ∀ u, u ≠ t → a u = r.fi u ∧ b u = r.st u := by
      intro M' a b f p hS e2 e1 ho hf hp ha hm
      have e1' : ((r.set_fi a).set_st b).st t = p := e1
      refine ⟨a, b, hS, ?_, Or.inr ⟨f, hf, e2, by rw [e1']; exact ha, by rw [e1']; exact hm⟩, ho⟩
      rw [e1]
      rcases hp with rfl | rfl <;> decide
    have LP : ∀ (q k : Nat), k + q = r.cnt → ¬ 0 < r.w → ∀ (M : gH) (a b : Nat → Int32) (f : Nat) (p : Int32), HS z ad (Q.set_sh (va_up Q.sh s ((r.set_fi a).set_st b))) N M → a t = nI f → b t = p → (∀ u, u ≠ t → a u = r.fi u ∧ b u = r.st u) → f < r.cnt → (p = 1 ∨ p = -1) → (∀ g q, g < k → (q = 1 ∨ q = -1) → lexLe r.cnt (cX r t f p) (cY r t f p) (cX r t g q) (cY r t g q)) → G (gzz D s0 (p_, l', e_, R_, s_, m_, ar_, be_, me_, c_) (rk 3 0 0) (fS none (fun M' => ∃ (a b : Nat → Int32), HS z ad (Q.set_sh (va_up Q.sh s ((r.set_fi a).set_st b))) N M' ∧ ¬ b t = 0 ∧ OrdOk ((r.set_fi a).set_st b) t ∧ ∀ u, u ≠ t → a u = r.fi u ∧ b u = r.st u)) 3) 53 [(0, .ref (ad 18 s)), (1, .int (nI t)), (2, .int (nI k))] [] M 0 0 := by
      intro q
      induction q with
      | zero =>
        intro k hk hw M a b f p hS hfi hst ho hf hp hm
        refine ri_iload_n h d_Sh_settleOrder_53 rfl ?_
        refine ri_aload_n h d_Sh_settleOrder_54 rfl ?_
        refine ri_get h d_Sh_settleOrder_55 fl_Sh_43 (hS.sh_of hs va_up_s) (v := .int (nI r.cnt)) rfl ?_
        first | refine ri_icmpN_ge h 81 d_Sh_settleOrder_58 (by decide) (by omega) (by omega) (fun c_58 => ?_) (fun c_58 => ?_) | refine ri_icmp_ge h 81 d_Sh_settleOrder_58 (by decide) (fun c_58 => ?_) (fun c_58 => ?_)
        · refine ri_return h d_Sh_settleOrder_81 (Nat.le_of_ble_eq_true rfl) (Nat.le_of_ble_eq_true rfl) ?_
          refine ⟨rfl, hend M a b f p hS hfi hst ho hf hp (Or.inr ⟨hw, hf, hp⟩) (fun g q ha => ?_)⟩
          rcases ha with ⟨ha, -⟩ | ⟨-, hg, hq⟩
          · exact absurd ha hw
          · exact hm g q (by omega) hq
        · omega
      | succ q ih =>
        intro k hk hw M a b f p hS hfi hst ho hf hp hm
        have hkc : k < r.cnt := by omega
        refine ri_iload_n h d_Sh_settleOrder_53 rfl ?_
        refine ri_aload_n h d_Sh_settleOrder_54 rfl ?_
        refine ri_get h d_Sh_settleOrder_55 fl_Sh_43 (hS.sh_of hs va_up_s) (v := .int (nI r.cnt)) rfl ?_
        first | refine ri_icmpN_ge h 81 d_Sh_settleOrder_58 (by decide) (by omega) (by omega) (fun c_58 => ?_) (fun c_58 => ?_) | refine ri_icmp_ge h 81 d_Sh_settleOrder_58 (by decide) (fun c_58 => ?_) (fun c_58 => ?_)
        · omega
        · refine ri_aload_n h d_Sh_settleOrder_61 rfl ?_
          refine ri_iload_n h d_Sh_settleOrder_62 rfl ?_
          refine ri_iload_n h d_Sh_settleOrder_63 rfl ?_
          refine ri_iconst h 1 d_Sh_settleOrder_64 rfl ?_
          refine ri_dV0_3 (r := (gR4, gT4, 10)) h d_Sh_settleOrder_65 cv_Sh_91 (by first | exact hS.lcO | exact hS.lsO | exact hS.lpO | exact hS.cesO (by first | assumption | omega) | exact hS.cepO (by first | assumption | omega) | exact ⟨_, (by first | assumption | exact hS.st | exact hS.mo | exact hS.out | exact hS.sb | exact hS.ce (by first | assumption | omega) | exact hS.ceb (by first | assumption | omega) | exact hS.sh (by first | assumption | omega) | exact hS.shb (by first | assumption | omega) | exact hS.pl (by first | assumption | omega) | exact hS.plb (by first | assumption | omega) | exact hS.fl (by first | assumption | omega) | exact gup_s | (refine gup_t (by assumption) ?_; first | assumption | exact gup_s | (refine gup_t (by assumption) ?_; first | assumption | exact gup_s | (refine gup_t (by assumption) ?_; first | assumption | exact gup_s))))⟩) rfl (k_take2 (f := f) (p' := p) (g := k) h0 hS hs ht hc hfi hst hf hp hkc (Or.inl rfl)) (Nat.le_of_ble_eq_true rfl) (Nat.le_of_ble_eq_true rfl) (Nat.le_of_ble_eq_true rfl) (Nat.le_of_ble_eq_true rfl) (Nat.le_of_ble_eq_true rfl) (fun M hS => ?_)
          obtain ⟨f1, p1, a1, b1, hfp, l1, l2, hS, hfi1, hst1, ho1⟩ := hS
          have hf1 : f1 < r.cnt := by rcases hfp with ⟨rfl, -⟩ | ⟨rfl, -⟩ <;> assumption
          have hp1 : p1 = 1 ∨ p1 = -1 := by rcases hfp with ⟨-, rfl⟩ | ⟨-, rfl⟩ <;> first | assumption | exact Or.inl rfl
          refine ri_aload_n h d_Sh_settleOrder_68 rfl ?_
          refine ri_iload_n h d_Sh_settleOrder_69 rfl ?_
          refine ri_iload_n h d_Sh_settleOrder_70 rfl ?_
          refine ri_iconst h (-1) d_Sh_settleOrder_71 rfl ?_
          refine ri_dV0_3 (r := (gR4, gT4, 10)) h d_Sh_settleOrder_72 cv_Sh_91 (by first | exact hS.lcO | exact hS.lsO | exact hS.lpO | exact hS.cesO (by first | assumption | omega) | exact hS.cepO (by first | assumption | omega) | exact ⟨_, (by first | assumption | exact hS.st | exact hS.mo | exact hS.out | exact hS.sb | exact hS.ce (by first | assumption | omega) | exact hS.ceb (by first | assumption | omega) | exact hS.sh (by first | assumption | omega) | exact hS.shb (by first | assumption | omega) | exact hS.pl (by first | assumption | omega) | exact hS.plb (by first | assumption | omega) | exact hS.fl (by first | assumption | omega) | exact gup_s | (refine gup_t (by assumption) ?_; first | assumption | exact gup_s | (refine gup_t (by assumption) ?_; first | assumption | exact gup_s | (refine gup_t (by assumption) ?_; first | assumption | exact gup_s))))⟩) rfl (k_take2 (f := f1) (p' := p1) (g := k) h0 hS hs ht hc hfi1 hst1 hf1 hp1 hkc (Or.inr rfl)) (Nat.le_of_ble_eq_true rfl) (Nat.le_of_ble_eq_true rfl) (Nat.le_of_ble_eq_true rfl) (Nat.le_of_ble_eq_true rfl) (Nat.le_of_ble_eq_true rfl) (fun M hS => ?_)
          obtain ⟨f2, p2, a2, b2, hfp2, l3, l4, hS, hfi2, hst2, ho2⟩ := hS
          have hf2 : f2 < r.cnt := by rcases hfp2 with ⟨rfl, -⟩ | ⟨rfl, -⟩ <;> assumption
          have hp2 : p2 = 1 ∨ p2 = -1 := by rcases hfp2 with ⟨-, rfl⟩ | ⟨-, rfl⟩ <;> first | assumption | exact Or.inr rfl
          first | refine ri_iincN h d_Sh_settleOrder_75 rfl (Nat.le_of_ble_eq_true rfl) ?_ | refine ri_iinc h _ d_Sh_settleOrder_75 rfl rfl (Nat.le_of_ble_eq_true rfl) ?_
          refine ri_goto h 53 d_Sh_settleOrder_78 (by decide) ?_
          refine ri_ls [(0, .ref (ad 18 s)), (1, .int (nI t)), (2, .int (nI (k + 1)))] ⟨rfl, rfl, rfl, trivial⟩ (ih (k + 1) (by omega) hw M a2 b2 f2 p2 hS hfi2 hst2 (fun u hu => ⟨(ho2 u hu).1.trans ((ho1 u hu).1.trans (ho u hu).1), (ho2 u hu).2.trans ((ho1 u hu).2.trans (ho u hu).2)⟩) hf2 hp2 (fun g q hg hq => ?_))
          rcases Nat.lt_or_eq_of_le (Nat.lt_succ_iff.mp hg) with hg | rfl
          · exact lexLe.trans l3 (lexLe.trans l1 (hm g q hg hq))
          · rcases hq with rfl | rfl
            · exact lexLe.trans l3 l2
            · exact l4
    refine ri_aload_n h d_Sh_settleOrder_0 rfl ?_
    refine ri_get h d_Sh_settleOrder_1 fl_Sh_29 (by first | assumption | exact hS.sh_of (by first | assumption | omega) (by assumption) | exact hS.sh (by first | assumption | omega) | exact gup_s) (by rfl) ?_
    refine ri_iload_n h d_Sh_settleOrder_4 rfl ?_
    refine ri_ialdE h _ d_Sh_settleOrder_5 (hS.sht_of hs hr) rfl ht (by decide) h00 ?_
    refine ri_if_ne h 16 d_Sh_settleOrder_6 (by decide) (fun c_6 => ?_) (fun c_6 => ?_)
    · exact absurd rfl c_6
    · refine ri_aload_n h d_Sh_settleOrder_9 rfl ?_
      refine ri_get h d_Sh_settleOrder_10 fl_Sh_43 (by first | assumption | exact hS.sh_of (by first | assumption | omega) (by assumption) | exact hS.sh (by first | assumption | omega) | exact gup_s) (by rfl) ?_
      first | refine ri_ifB_ne h 17 d_Sh_settleOrder_13 (by decide) (fun c_13 => ?_) (fun c_13 => ?_) | refine ri_ifN_ne h 17 d_Sh_settleOrder_13 (by decide) (by omega) (fun c_13 => ?_) (fun c_13 => ?_) | refine ri_if_ne h 17 d_Sh_settleOrder_13 (by decide) (fun c_13 => ?_) (fun c_13 => ?_)
      · refine ri_aload_n h d_Sh_settleOrder_17 rfl ?_
        refine ri_get h d_Sh_settleOrder_18 fl_Sh_25 (by first | assumption | exact hS.sh_of (by first | assumption | omega) (by assumption) | exact hS.sh (by first | assumption | omega) | exact gup_s) (by rfl) ?_
        refine ri_iload_n h d_Sh_settleOrder_21 rfl ?_
        refine ri_iconst h 0 d_Sh_settleOrder_22 rfl ?_
        refine ri_iast h _ d_Sh_settleOrder_23 (by first | assumption | exact hS.shf_of (by first | assumption | omega) (by assumption) | exact hS.shf (by first | assumption | omega)) (by first | rfl | assumption) (by first | assumption | omega) (by first | decide | omega) ?_
        refine ri_gH2 (hS.p_shf (by first | assumption | omega) (by first | assumption | rfl) _) (fun M hS h_sh => ?_)
        refine ri_aload_n h d_Sh_settleOrder_24 rfl ?_
        refine ri_get h d_Sh_settleOrder_25 fl_Sh_29 (by first | assumption | exact hS.sh_of (by first | assumption | omega) (by assumption) | exact hS.sh (by first | assumption | omega) | exact gup_s) (by rfl) ?_
        refine ri_iload_n h d_Sh_settleOrder_28 rfl ?_
        refine ri_iconst h 1 d_Sh_settleOrder_29 rfl ?_
        refine ri_iast h _ d_Sh_settleOrder_30 (by first | assumption | exact hS.sht_of (by first | assumption | omega) (by assumption) | exact hS.sht (by first | assumption | omega)) (by first | rfl | assumption) (by first | assumption | omega) (by first | decide | omega) ?_
        refine ri_gH2 (hS.p_sht (by first | assumption | omega) (by first | assumption | rfl) _) (fun M hS h_sh => ?_)
        have hS : HS z ad (Q.set_sh (va_up Q.sh s ((r.set_fi (va_up r.fi t (nI 0))).set_st (va_up r.st t 1)))) N M := HS.sh2 hS
        have hfi0 : va_up r.fi t (nI 0) t = nI 0 := va_up_s
        have hst0 : va_up r.st t 1 t = 1 := va_up_s
        have ho0 : ∀ u, u ≠ t → va_up r.fi t (nI 0) u = r.fi u ∧ va_up r.st t 1 u = r.st u := fun u hu => ⟨va_up_n hu, va_up_n hu⟩
        generalize va_up r.fi t (nI 0) = a0 at *
        generalize va_up r.st t 1 = b0 at *
        refine ri_aload_n h d_Sh_settleOrder_31 rfl ?_
        refine ri_cVv_0 (r := (gR4, gT4, 10)) h d_Sh_settleOrder_32 cv_Sh_46 (by first | exact hS.lcO | exact hS.lsO | exact hS.lpO | exact hS.cesO (by first | assumption | omega) | exact hS.cepO (by first | assumption | omega) | exact ⟨_, (by first | assumption | exact hS.st | exact hS.mo | exact hS.out | exact hS.sb | exact hS.ce (by first | assumption | omega) | exact hS.ceb (by first | assumption | omega) | exact hS.sh (by first | assumption | omega) | exact hS.shb (by first | assumption | omega) | exact hS.pl (by first | assumption | omega) | exact hS.plb (by first | assumption | omega) | exact hS.fl (by first | assumption | omega) | exact gup_s | (refine gup_t (by assumption) ?_; first | assumption | exact gup_s | (refine gup_t (by assumption) ?_; first | assumption | exact gup_s | (refine gup_t (by assumption) ?_; first | assumption | exact gup_s))))⟩) rfl (k_isPath h0 (hS.sh_of hs (r := (r.set_fi a0).set_st b0) va_up_s)) (Nat.le_of_ble_eq_true rfl) (Nat.le_of_ble_eq_true rfl) (Nat.le_of_ble_eq_true rfl) (Nat.le_of_ble_eq_true rfl) (Nat.le_of_ble_eq_true rfl) ?_
        by_cases hw : 0 < r.w
        · have hsp : spath r.w = 1 := if_pos hw
          rw [show spath ((r.set_fi a0).set_st b0).w = 1 from hsp]
          refine ri_if_eq h 51 d_Sh_settleOrder_35 (by decide) (fun c_35 => ?_) (fun c_35 => ?_)
          · exact absurd c_35 (by decide)
          · refine ri_aload_n h d_Sh_settleOrder_38 rfl ?_
            refine ri_iload_n h d_Sh_settleOrder_39 rfl ?_
            refine ri_aload_n h d_Sh_settleOrder_40 rfl ?_
            refine ri_get h d_Sh_settleOrder_41 fl_Sh_43 (hS.sh_of hs va_up_s) (v := .int (nI r.cnt)) rfl ?_
            refine ri_iconstN h 1 d_Sh_settleOrder_44 rfl ?_
            first | refine ri_isubN h d_Sh_settleOrder_45 (by first | omega | exact Nat.le_add_left _ _) ?_ | refine ri_isub h d_Sh_settleOrder_45 ?_
            refine ri_iconst h (-1) d_Sh_settleOrder_46 rfl ?_
            refine ri_dV0_3 (r := (gR4, gT4, 10)) h d_Sh_settleOrder_47 cv_Sh_91 (by first | exact hS.lcO | exact hS.lsO | exact hS.lpO | exact hS.cesO (by first | assumption | omega) | exact hS.cepO (by first | assumption | omega) | exact ⟨_, (by first | assumption | exact hS.st | exact hS.mo | exact hS.out | exact hS.sb | exact hS.ce (by first | assumption | omega) | exact hS.ceb (by first | assumption | omega) | exact hS.sh (by first | assumption | omega) | exact hS.shb (by first | assumption | omega) | exact hS.pl (by first | assumption | omega) | exact hS.plb (by first | assumption | omega) | exact hS.fl (by first | assumption | omega) | exact gup_s | (refine gup_t (by assumption) ?_; first | assumption | exact gup_s | (refine gup_t (by assumption) ?_; first | assumption | exact gup_s | (refine gup_t (by assumption) ?_; first | assumption | exact gup_s))))⟩) rfl (k_take2 (f := 0) (p' := 1) (g := r.cnt - 1) (p := -1) h0 hS hs ht hc hfi0 hst0 hc0 (Or.inl rfl) (show r.cnt - 1 < r.cnt by omega) (Or.inr rfl)) (Nat.le_of_ble_eq_true rfl) (Nat.le_of_ble_eq_true rfl) (Nat.le_of_ble_eq_true rfl) (Nat.le_of_ble_eq_true rfl) (Nat.le_of_ble_eq_true rfl) (fun M hS => ?_)
            obtain ⟨f1, p1, a1, b1, hfp, l1, l2, hS, hfi1, hst1, ho1⟩ := hS
            refine ri_return h d_Sh_settleOrder_50 (Nat.le_of_ble_eq_true rfl) (Nat.le_of_ble_eq_true rfl) ?_
            refine ⟨rfl, hend M a1 b1 f1 p1 hS hfi1 hst1 (fun u hu => ⟨(ho1 u hu).1.trans (ho0 u hu).1, (ho1 u hu).2.trans (ho0 u hu).2⟩) ?_ ?_ ?_ (fun g q ha => ?_)⟩
            · rcases hfp with ⟨rfl, -⟩ | ⟨rfl, -⟩ <;> omega
            · rcases hfp with ⟨-, rfl⟩ | ⟨-, rfl⟩
              · exact Or.inl rfl
              · exact Or.inr rfl
            · exact Or.inl ⟨hw, hfp⟩
            · rcases ha with ⟨-, ⟨rfl, rfl⟩ | ⟨rfl, rfl⟩⟩ | ⟨ha, -⟩
              · exact l1
              · exact l2
              · exact absurd hw ha
        · have hsp : spath r.w = 0 := if_neg hw
          rw [show spath ((r.set_fi a0).set_st b0).w = 0 from hsp]
          refine ri_if_eq h 51 d_Sh_settleOrder_35 (by decide) (fun c_35 => ?_) (fun c_35 => ?_)
          · refine ri_iconstN h 0 d_Sh_settleOrder_51 rfl ?_
            refine ri_istore_n h d_Sh_settleOrder_52 (Nat.le_of_ble_eq_true rfl) ?_
            exact ri_ls [(0, .ref (ad 18 s)), (1, .int (nI t)), (2, .int (nI 0))] ⟨rfl, rfl, rfl, trivial⟩ (LP r.cnt 0 (by omega) hw M a0 b0 0 1 hS hfi0 hst0 ho0 hc0 (Or.inl rfl) (fun g q hg => by omega))
          · exact absurd rfl c_35
      · omega
  · refine Ct.of h0 (by decide +kernel) rfl fun X hX h => ?_
    obtain ⟨p_, l', e_, R_, s_, m_, ar_, be_, me_, c_⟩ := X
    obtain rfl : l' = l := hX
    have h_sh : Q.sh s = r := hr
    refine ri_aload_n h d_Sh_settleOrder_0 rfl ?_
    refine ri_get h d_Sh_settleOrder_1 fl_Sh_29 (by first | assumption | exact hS.sh_of (by first | assumption | omega) (by assumption) | exact hS.sh (by first | assumption | omega) | exact gup_s) (by rfl) ?_
    refine ri_iload_n h d_Sh_settleOrder_4 rfl ?_
    refine ri_iald h _ d_Sh_settleOrder_5 (by first | assumption | exact hS.sht_of (by first | assumption | omega) (by assumption) | exact hS.sht (by first | assumption | omega)) (by first | rfl | assumption) (by first | assumption | omega) (by first | decide | omega) ?_
    refine ri_if_ne h 16 d_Sh_settleOrder_6 (by decide) (fun c_6 => ?_) (fun c_6 => ?_)
    · refine ri_return h d_Sh_settleOrder_16 (Nat.le_of_ble_eq_true rfl) (Nat.le_of_ble_eq_true rfl) ?_
      refine ⟨rfl, r.fi, r.st, ?_, h00, hO, fun u _ => ⟨rfl, rfl⟩⟩
      have e3 : va_up Q.sh s ((r.set_fi r.fi).set_st r.st) = Q.sh := by rw [← hr]; exact va_up_id
      rw [e3]
      exact hS
    · contradiction
end ORD
