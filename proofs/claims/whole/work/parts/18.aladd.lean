/-! ArrayList.add -/
def fQ (P : Nat → gH → Prop) : gR → gH → Prop := fun r M' => ∃ q, r = .inl (some (.ref q)) ∧ P q M'
theorem fQ_x {P : Nat → gH → Prop} : ∀ E M', ¬ fQ P (.inr E) M' := fun _ _ h => by obtain ⟨q, h, -⟩ := h; cases h
def fV (P : gH → Prop) : gR → gH → Prop := fun r M' => r = .inl none ∧ P M'
theorem fV_x {P : gH → Prop} : ∀ E M', ¬ fV P (.inr E) M' := fun _ _ h => by cases h.1
def fI (P : Value → gH → Prop) : gR → gH → Prop := fun r M' => ∃ v, r = .inl (some v) ∧ P v M'
theorem fI_x {P : Value → gH → Prop} : ∀ E M', ¬ fI P (.inr E) M' := fun _ _ h => by obtain ⟨q, h, -⟩ := h; cases h
theorem imax_nI {a b : Nat} (ha : a < 2147483648) (hb : b < 2147483648) : imax (nI a) (nI b) = nI (max a b) := by
  unfold imax
  by_cases h : a < b
  · rw [if_pos (nI_lt h (by omega)), Nat.max_eq_right (by omega)]
  · rw [if_neg (nI_nlt (by omega) (by omega)), Nat.max_eq_left (by omega)]
theorem imin_nI {a b : Nat} (ha : a < 2147483648) (hb : b < 2147483648) : imin (nI a) (nI b) = nI (min a b) := by
  unfold imin
  by_cases h : b < a
  · rw [if_pos (nI_lt h (by omega)), Nat.min_eq_right (by omega)]
  · rw [if_neg (nI_nlt (by omega) (by omega)), Nat.min_eq_left (by omega)]
section AD
variable {l : Launch} {D : gD} {s0 : State} {M : gH} {a d z : Nat}
theorem k_newLength (h0 : g_0 l D s0) (o p q : Nat) (hp : 0 < p) (hs : o + max p q < 1000000) : Ct l D s0 y_AS_newLength (Cond.code y_AS_newLength b_AS_newLength 4 (some .int)) (rk 1 0 0) [.int (nI o), .int (nI p), .int (nI q)] M (fR (some (.int (nI (o + max p q)))) M) := by
  have hm : p ≤ max p q := Nat.le_max_left _ _
  have hm2 : q ≤ max p q := Nat.le_max_right _ _
  refine Ct.of h0 (by decide +kernel) rfl fun X hX h => ?_
  obtain ⟨p_, l', e_, R_, s_, m_, ar_, be_, me_, c_⟩ := X
  obtain rfl : l' = l := hX
  refine ri_iload_n h d_AS_newLength_0 rfl ?_
  refine ri_iload_n h d_AS_newLength_1 rfl ?_
  refine ri_iload_n h d_AS_newLength_2 rfl ?_
  refine ri_cSv h [.int (nI p), .int (nI q)] [.int (nI o)] d_AS_newLength_3 cs_AS_194 (m_max_i h0 _ _ _) rfl rfl (Nat.le_of_ble_eq_true rfl) (Nat.le_of_ble_eq_true rfl) (Nat.le_of_ble_eq_true rfl) (Nat.le_of_ble_eq_true rfl) (Nat.le_of_ble_eq_true rfl) ?_
  rw [imax_nI (by omega) (by omega)]
  refine ri_iadd h d_AS_newLength_6 ?_
  rw [nI_add]
  refine ri_istore_n h d_AS_newLength_7 (Nat.le_of_ble_eq_true rfl) ?_
  refine ri_iconst h 0 d_AS_newLength_8 rfl ?_
  refine ri_iload_n h d_AS_newLength_9 rfl ?_
  refine ri_icmp_ge h 21 d_AS_newLength_10 (by decide) (fun c_10 => ?_) (fun c_10 => ?_)
  · exact absurd (show nI (o + max p q) ≤ nI 0 from c_10) (nI_ge (by omega) (by omega))
  · refine ri_iload_n h d_AS_newLength_13 rfl ?_
    refine ri_ldc h 2147483639 d_AS_newLength_14 kc_AS_200 ?_
    refine ri_icmp_gt h 21 d_AS_newLength_16 (by decide) (fun c_16 => ?_) (fun c_16 => ?_)
    · exact absurd (show nI 2147483639 < nI (o + max p q) from c_16) (nI_nlt (by omega) (by omega))
    · refine ri_iload_n h d_AS_newLength_19 rfl ?_
      refine ri_ireturn h d_AS_newLength_20 (Nat.le_of_ble_eq_true rfl) (Nat.le_of_ble_eq_true rfl) ?_
      exact ⟨rfl, rfl⟩
theorem k_copyOf1 (h0 : g_0 l D s0) {n0 n1 mi : Nat} {f : Nat → Option Nat} (hmi : va_Mi "[Ljava/lang/Object;" mi s0) (hM : M d = some (ao n0 f)) (hn : n0 ≤ n1) (h1 : n1 < 1000) (hf : ∀ i, i < n0 → f i = none ∨ ∃ y ci vs, f i = some y ∧ M y = some (.inr (ci, vs)) ∧ gFit ci 3) : Ct l D s0 y_Ar_copyOf_1 (Cond.code y_Ar_copyOf_1 b_Ar_copyOf_1 4 (some (.array (.object "java/lang/Object")))) (rk 1 1 1000) [.ref d, .int (nI n1), .ref mi] M (fQ fun q M' => M q = none ∧ M' = gup M q (ao n1 (va_cpy f (fun _ => none) 0 0 n0))) := by
  refine Ct.of h0 (by decide +kernel) rfl fun X hX h => ?_
  obtain ⟨p_, l', e_, R_, s_, m_, ar_, be_, me_, c_⟩ := X
  obtain rfl : l' = l := hX
  refine ri_aload_n h d_Ar_copyOf_1_0 rfl ?_
  refine ri_ldcM h d_Ar_copyOf_1_1 (by decide +kernel) hmi ?_
  refine ri_acmp_ne h 13 d_Ar_copyOf_1_3 (by decide) (fun c_3 => absurd rfl c_3) (fun _ => ?_)
  refine ri_iload_n h d_Ar_copyOf_1_6 rfl ?_
  refine ri_anew h 3 n1 d_Ar_copyOf_1_7 (by decide) rfl (by decide +kernel) (by decide +kernel) rfl (by omega) (Nat.le_of_ble_eq_true rfl) (by show 0 + n1 ≤ 1000; omega) (fun q hq => ?_)
  refine ri_widen (cl' := 1) (sl' := 1000) (by omega) (by omega) ?_
  have hdq : d ≠ q := gneN hM hq
  refine ri_goto h 24 d_Ar_copyOf_1_10 (by decide) ?_
  refine ri_astore_n h d_Ar_copyOf_1_24 (Nat.le_of_ble_eq_true rfl) ?_
  refine ri_aload_n h d_Ar_copyOf_1_25 rfl ?_
  refine ri_iconst h 0 d_Ar_copyOf_1_26 rfl ?_
  refine ri_aload_n h d_Ar_copyOf_1_27 rfl ?_
  refine ri_iconst h 0 d_Ar_copyOf_1_28 rfl ?_
  refine ri_aload_n h d_Ar_copyOf_1_29 rfl ?_
  refine ri_alen h d_Ar_copyOf_1_30 (by first | assumption | exact gup_s | (refine gup_t (by assumption) ?_; first | assumption | exact gup_s | (refine gup_t (by assumption) ?_; first | assumption | exact gup_s | (refine gup_t (by assumption) ?_; first | assumption | exact gup_s)))) ?_
  refine ri_iload_n h d_Ar_copyOf_1_31 rfl ?_
  refine ri_cSv h [.int (nI n0), .int (nI n1)] [.int 0, .ref q, .int 0, .ref d] d_Ar_copyOf_1_32 cs_Ar_304 (m_min_i h0 _ _ _) rfl rfl (Nat.le_of_ble_eq_true rfl) (Nat.le_of_ble_eq_true rfl) (Nat.le_of_ble_eq_true rfl) (Nat.le_of_ble_eq_true rfl) (Nat.le_of_ble_eq_true rfl) ?_
  rw [imin_nI (by omega) (by omega), Nat.min_eq_left hn]
  refine ri_copy (fun x : Option Nat => va_rf x) h 3 0 0 n0 d_Ar_copyOf_1_35 (by decide +kernel) (gup_t hdq hM) gup_s rfl rfl rfl (by omega) (by omega) (by omega) (by omega) ?_ (Nat.le_of_ble_eq_true rfl) (Nat.le_of_ble_eq_true rfl) ?_
  · intro i hi
    rw [Nat.zero_add]
    rcases hf i hi with hf | ⟨y, ci, vs, hf, hy, hfit⟩
    · exact Or.inr (Or.inl ⟨by show va_rf (f i) = _; rw [hf]; rfl, rfl⟩)
    · exact Or.inr (Or.inr ⟨y, ci, vs, by show va_rf (f i) = _; rw [hf]; rfl, gup_t (gneN hy hq) hy, hfit⟩)
  · refine ri_aload_n h d_Ar_copyOf_1_38 rfl ?_
    refine ri_areturn h (by first | exact Or.inl ⟨_, rfl⟩ | exact Or.inr ⟨_, rfl⟩) d_Ar_copyOf_1_39 (Nat.le_of_ble_eq_true rfl) (Nat.le_of_ble_eq_true rfl) ?_
    exact ⟨q, rfl, hq, by rw [gup_u]⟩
theorem k_copyOf0 (h0 : g_0 l D s0) {n0 n1 : Nat} {f : Nat → Option Nat} (hM : M d = some (ao n0 f)) (hn : n0 ≤ n1) (h1 : n1 < 1000) (hf : ∀ i, i < n0 → f i = none ∨ ∃ y ci vs, f i = some y ∧ M y = some (.inr (ci, vs)) ∧ gFit ci 3) : Ct l D s0 y_Ar_copyOf_0 (Cond.code y_Ar_copyOf_0 b_Ar_copyOf_0 2 (some (.array (.object "java/lang/Object")))) (rk 2 1 1000) [.ref d, .int (nI n1)] M (fQ fun q M' => M q = none ∧ M' = gup M q (ao n1 (va_cpy f (fun _ => none) 0 0 n0))) := by
  obtain ⟨mi, hmi⟩ := g_mi h0
  refine Ct.of h0 (by decide +kernel) rfl fun X hX h => ?_
  obtain ⟨p_, l', e_, R_, s_, m_, ar_, be_, me_, c_⟩ := X
  obtain rfl : l' = l := hX
  refine ri_aload_n h d_Ar_copyOf_0_0 rfl ?_
  refine ri_iload_n h d_Ar_copyOf_0_1 rfl ?_
  refine ri_aload_n h d_Ar_copyOf_0_2 rfl ?_
  refine ri_getC h d_Ar_copyOf_0_3 hM hmi (Nat.le_of_ble_eq_true rfl) (Nat.le_of_ble_eq_true rfl) ?_
  refine ri_callS h [.ref d, .int (nI n1), .ref mi] [] d_Ar_copyOf_0_6 cs_Ar_300 rfl rfl (Nat.le_of_ble_eq_true rfl) (Nat.le_of_ble_eq_true rfl) (Nat.le_of_ble_eq_true rfl) (Nat.le_of_ble_eq_true rfl) (Nat.le_of_ble_eq_true rfl) (k_copyOf1 h0 hmi hM hn h1 hf) (fun _ _ h9 => absurd h9 (fQ_x _ _)) ?_
  rintro v M' ⟨q, hv, hq, hM'⟩
  cases hv
  refine ri_areturn h (by first | exact Or.inl ⟨_, rfl⟩ | exact Or.inr ⟨_, rfl⟩) d_Ar_copyOf_0_9 (Nat.le_of_ble_eq_true rfl) (Nat.le_of_ble_eq_true rfl) ?_
  exact ⟨q, rfl, hq, hM'⟩
/-- grow(n + 1) of a full list -/
theorem k_grow1 (h0 : g_0 l D s0) (hz : gz s0 z) {mc : Int32} {cap : Nat} {g : Nat → Option Nat} (hM : M a = some (als d (nI cap) mc)) (hd : M d = some (ao cap g)) (hzN : d ≠ z) (hc0 : 0 < cap) (hc : cap < 500) (hf : ∀ i, i < cap → g i = none ∨ ∃ y ci vs, g i = some y ∧ M y = some (.inr (ci, vs)) ∧ gFit ci 3) : Ct l D s0 y_AL_grow_1 (Cond.code y_AL_grow_1 b_AL_grow_1 4 (some (.array (.object "java/lang/Object")))) (rk 3 1 1000) [.ref a, .int (nI (cap + 1))] M (fQ fun q M' => M q = none ∧ M' = gup (gup M q (ao (cap + max 1 (cap / 2)) (va_cpy g (fun _ => none) 0 0 cap))) a (als q (nI cap) mc)) := by
  have hmx : max 1 (cap / 2) ≤ cap := by omega
  have e1 : nI (cap + 1) - nI cap = nI 1 := by rw [pk_sub (by omega)]; congr 1; omega
  have e2 : nI cap >>> ((1 : Int32) &&& 31) = nI (cap / 2) := pk_shrN (by omega) _ 1 (by decide)
  refine Ct.of h0 (by decide +kernel) rfl fun X hX h => ?_
  obtain ⟨p_, l', e_, R_, s_, m_, ar_, be_, me_, c_⟩ := X
  obtain rfl : l' = l := hX
  refine ri_aload_n h d_AL_grow_1_0 rfl ?_
  refine ri_get h d_AL_grow_1_1 fl_AL_9 (by first | assumption | exact gup_s | (refine gup_t (by assumption) ?_; first | assumption | exact gup_s | (refine gup_t (by assumption) ?_; first | assumption | exact gup_s | (refine gup_t (by assumption) ?_; first | assumption | exact gup_s)))) (by rfl) ?_
  refine ri_alen h d_AL_grow_1_4 (by first | assumption | exact gup_s | (refine gup_t (by assumption) ?_; first | assumption | exact gup_s | (refine gup_t (by assumption) ?_; first | assumption | exact gup_s | (refine gup_t (by assumption) ?_; first | assumption | exact gup_s)))) ?_
  refine ri_istore_n h d_AL_grow_1_5 (Nat.le_of_ble_eq_true rfl) ?_
  refine ri_iload_n h d_AL_grow_1_6 rfl ?_
  refine ri_if_gt h 20 d_AL_grow_1_7 (by decide) (fun c_7 => ?_) (fun c_7 => ?_)
  · refine ri_iload_n h d_AL_grow_1_20 rfl ?_
    refine ri_iload_n h d_AL_grow_1_21 rfl ?_
    refine ri_iload_n h d_AL_grow_1_22 rfl ?_
    refine ri_isub h d_AL_grow_1_23 ?_
    refine ri_iload_n h d_AL_grow_1_24 rfl ?_
    refine ri_iconst h 1 d_AL_grow_1_25 rfl ?_
    refine ri_ishr h d_AL_grow_1_26 ?_
    rw [e1, e2]
    refine ri_cSv h [.int (nI cap), .int (nI 1), .int (nI (cap / 2))] [] d_AL_grow_1_27 cs_AL_73 (k_newLength h0 cap 1 (cap / 2) (by omega) (by omega)) rfl rfl (Nat.le_of_ble_eq_true rfl) (Nat.le_of_ble_eq_true rfl) (Nat.le_of_ble_eq_true rfl) (Nat.le_of_ble_eq_true rfl) (Nat.le_of_ble_eq_true rfl) ?_
    refine ri_istore_n h d_AL_grow_1_30 (Nat.le_of_ble_eq_true rfl) ?_
    refine ri_aload_n h d_AL_grow_1_31 rfl ?_
    refine ri_aload_n h d_AL_grow_1_32 rfl ?_
    refine ri_get h d_AL_grow_1_33 fl_AL_9 (by first | assumption | exact gup_s | (refine gup_t (by assumption) ?_; first | assumption | exact gup_s | (refine gup_t (by assumption) ?_; first | assumption | exact gup_s | (refine gup_t (by assumption) ?_; first | assumption | exact gup_s)))) (by rfl) ?_
    refine ri_iload_n h d_AL_grow_1_36 rfl ?_
    refine ri_callS h [.ref d, .int (nI (cap + max 1 (cap / 2)))] [.ref a] d_AL_grow_1_37 cs_AL_66 rfl rfl (Nat.le_of_ble_eq_true rfl) (Nat.le_of_ble_eq_true rfl) (Nat.le_of_ble_eq_true rfl) (Nat.le_of_ble_eq_true rfl) (Nat.le_of_ble_eq_true rfl) (k_copyOf0 h0 hd (by omega) (by omega) hf) (fun _ _ h9 => absurd h9 (fQ_x _ _)) ?_
    rintro v M' ⟨q, hv, hq, hM'⟩
    cases hv
    subst hM'
    have haq : a ≠ q := gneN hM hq
    refine ri_dup_x1 h d_AL_grow_1_40 rfl rfl ?_
    refine ri_put h d_AL_grow_1_41 fl_AL_9 (fun r hr => by cases hr; rfl) (by first | assumption | exact gup_s | (refine gup_t (by assumption) ?_; first | assumption | exact gup_s | (refine gup_t (by assumption) ?_; first | assumption | exact gup_s | (refine gup_t (by assumption) ?_; first | assumption | exact gup_s)))) (by first | rfl | assumption) (by first | rfl | decide | assumption) ?_
    refine ri_areturn h (by first | exact Or.inl ⟨_, rfl⟩ | exact Or.inr ⟨_, rfl⟩) d_AL_grow_1_44 (Nat.le_of_ble_eq_true rfl) (Nat.le_of_ble_eq_true rfl) ?_
    exact ⟨q, rfl, hq, rfl⟩
  · exact absurd c_7 (fun hn => hn (nI_lt (a := 0) hc0 (by omega)))
/-- grow(1) of a new list -/
theorem k_grow1z (h0 : g_0 l D s0) (hz : gz s0 z) {mc : Int32} (hM : M a = some (als z 0 mc)) : Ct l D s0 y_AL_grow_1 (Cond.code y_AL_grow_1 b_AL_grow_1 4 (some (.array (.object "java/lang/Object")))) (rk 3 1 1000) [.ref a, .int 1] M (fQ fun q M' => M q = none ∧ M' = gup (gup M q (ao 10 (fun _ => none))) a (als q 0 mc)) := by
  refine Ct.of h0 (by decide +kernel) rfl fun X hX h => ?_
  obtain ⟨p_, l', e_, R_, s_, m_, ar_, be_, me_, c_⟩ := X
  obtain rfl : l' = l := hX
  refine ri_aload_n h d_AL_grow_1_0 rfl ?_
  refine ri_get h d_AL_grow_1_1 fl_AL_9 (by first | assumption | exact gup_s | (refine gup_t (by assumption) ?_; first | assumption | exact gup_s | (refine gup_t (by assumption) ?_; first | assumption | exact gup_s | (refine gup_t (by assumption) ?_; first | assumption | exact gup_s)))) (by rfl) ?_
  refine ri_alenZ h hz d_AL_grow_1_4 ?_
  refine ri_istore_n h d_AL_grow_1_5 (Nat.le_of_ble_eq_true rfl) ?_
  refine ri_iload_n h d_AL_grow_1_6 rfl ?_
  refine ri_if_gt h 20 d_AL_grow_1_7 (by decide) (fun c_7 => ?_) (fun c_7 => ?_)
  · exact absurd c_7 (by decide)
  · refine ri_aload_n h d_AL_grow_1_10 rfl ?_
    refine ri_get h d_AL_grow_1_11 fl_AL_9 (by first | assumption | exact gup_s | (refine gup_t (by assumption) ?_; first | assumption | exact gup_s | (refine gup_t (by assumption) ?_; first | assumption | exact gup_s | (refine gup_t (by assumption) ?_; first | assumption | exact gup_s)))) (by rfl) ?_
    refine ri_gets h hz d_AL_grow_1_14 ?_
    refine ri_acmp_eq h 45 d_AL_grow_1_17 (by decide) (fun _ => ?_) (fun c_17 => absurd rfl c_17)
    refine ri_aload_n h d_AL_grow_1_45 rfl ?_
    refine ri_bipush h 10 d_AL_grow_1_46 rfl ?_
    refine ri_iload_n h d_AL_grow_1_48 rfl ?_
    refine ri_cSv h [.int 10, .int 1] [.ref a] d_AL_grow_1_49 cs_AL_79 (m_max_i h0 _ _ _) rfl rfl (Nat.le_of_ble_eq_true rfl) (Nat.le_of_ble_eq_true rfl) (Nat.le_of_ble_eq_true rfl) (Nat.le_of_ble_eq_true rfl) (Nat.le_of_ble_eq_true rfl) ?_
    refine ri_anew h 3 10 d_AL_grow_1_52 (by decide) rfl (by decide +kernel) (by decide +kernel) (by decide) (by omega) (Nat.le_of_ble_eq_true rfl) (Nat.le_of_ble_eq_true rfl) (fun q hq => ?_)
    have haq : a ≠ q := gneN hM hq
    refine ri_dup_x1 h d_AL_grow_1_55 rfl rfl ?_
    refine ri_put h d_AL_grow_1_56 fl_AL_9 (fun r hr => by cases hr; rfl) (by first | assumption | exact gup_s | (refine gup_t (by assumption) ?_; first | assumption | exact gup_s | (refine gup_t (by assumption) ?_; first | assumption | exact gup_s | (refine gup_t (by assumption) ?_; first | assumption | exact gup_s)))) (by first | rfl | assumption) (by first | rfl | decide | assumption) ?_
    refine ri_areturn h (by first | exact Or.inl ⟨_, rfl⟩ | exact Or.inr ⟨_, rfl⟩) d_AL_grow_1_59 (Nat.le_of_ble_eq_true rfl) (Nat.le_of_ble_eq_true rfl) ?_
    exact ⟨q, rfl, hq, rfl⟩
end AD
