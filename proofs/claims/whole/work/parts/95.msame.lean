/-! isSame: the model -/
def SF (N : MS) (a b n f : Nat) (s : Int32) : Prop := ∀ k, k < n → N.l 22 (24 * a + k) = N.l 22 (72000 + 24 * b + oix n f s k) ∧ N.l 23 (24 * a + k) = N.l 23 (72000 + 24 * b + oix n f s k)
theorem im_p : ∀ a, a < 72 → ∀ n, n < 25 → 0 < n → nI a - nI a / nI n * nI n = nI (a % n) := by decide +kernel
theorem oix_rem {n f k : Nat} {s : Int32} (hn : n ≤ 24) (hf : f < n) (hk : k < n) (hs : s = 1 ∨ s = -1) : nI f + s * nI k + nI n - (nI f + s * nI k + nI n) / nI n * nI n = nI (oix n f s k) := by
  rcases hs with rfl | rfl
  · rw [Int32.one_mul, nI_add, nI_add, im_p _ (by omega) _ (by omega) (by omega), Nat.add_mod_right]
    unfold oix
    rw [if_pos rfl]
  · have e : nI f + -1 * nI k + nI n = nI (f + n - k) := by
      rw [Int32.neg_mul, Int32.one_mul, Int32.add_assoc, Int32.add_comm (-(nI k)), ← Int32.add_assoc, ← Int32.sub_eq_add_neg, nI_add, nI_sub (by omega)]
    rw [e, im_p _ (by omega) _ (by omega) (by omega)]
    unfold oix
    rw [if_neg (by decide)]
section MSA
variable {l : Launch} {D : gD} {s0 : State} {M : gH} {z : Nat} {ad : gA} {Q Qc : CS} {N : MS} {a b : Nat}
theorem k_mSF (h0 : g_0 l D s0) (hS : HS z ad Qc N M) {n f : Nat} {s : Int32} (ha : a < 3000) (hb : b < 3000) (hn : n ≤ 24) (hf : f < n) (hs : s = 1 ∨ s = -1) {bb : Int32} (hbb : (bb = 1 ∧ SF N a b n f s) ∨ (bb = 0 ∧ ¬ SF N a b n f s)) : Ct l D s0 y_Md_isSameFrom (Cond.code y_Md_isSameFrom b_Md_isSameFrom 9 (some .boolean)) (rk 0 0 0) [.ref (ad 30 0), .int (nI a), .int (nI b), .int (nI n), .int (nI f), .int s] M (fR (some (.int bb)) M) := by
  have hyes : SF N a b n f s → bb = 1 := fun q => by
    rcases hbb with ⟨e, -⟩ | ⟨-, q'⟩
    · exact e
    · exact absurd q q'
  have hno : ¬ SF N a b n f s → bb = 0 := fun q => by
    rcases hbb with ⟨-, q'⟩ | ⟨e, -⟩
    · exact absurd q' q
    · exact e
  have hn0 : ¬ nI n = 0 := fun q => by
    have := congrArg Int32.toInt q
    rw [nI_toInt (by omega), show (0 : Int32).toInt = 0 by decide] at this
    omega
  refine Ct.of h0 (by decide +kernel) rfl fun X hX h => ?_
  obtain ⟨p_, l', e_, R_, s_, m_, ar_, be_, me_, c_⟩ := X
  obtain rfl : l' = l := hX
  have LP : ∀ (q k : Nat), k + q = n → (∀ j, j < k → N.l 22 (24 * a + j) = N.l 22 (72000 + 24 * b + oix n f s j) ∧ N.l 23 (24 * a + j) = N.l 23 (72000 + 24 * b + oix n f s j)) → G (gzz D s0 (p_, l', e_, R_, s_, m_, ar_, be_, me_, c_) (rk 0 0 0) (fR (some (.int bb)) M) 9) 3 [(0, .ref (ad 30 0)), (1, .int (nI a)), (2, .int (nI b)), (3, .int (nI n)), (4, .int (nI f)), (5, .int s), (6, .int (nI k))] [] M 0 0 := by
    intro q
    induction q with
    | zero =>
      intro k hk hlt
      obtain rfl : k = n := by omega
      refine ri_iload h d_Md_isSameFrom_3 rfl ?_
      refine ri_iload_n h d_Md_isSameFrom_5 rfl ?_
      first | refine ri_icmpN_ge h 84 d_Md_isSameFrom_6 (by decide) (by omega) (by omega) (fun c_6 => ?_) (fun c_6 => ?_) | refine ri_icmp_ge h 84 d_Md_isSameFrom_6 (by decide) (fun c_6 => ?_) (fun c_6 => ?_)
      · have eb := hyes hlt
        refine ri_iconstN h 1 d_Md_isSameFrom_84 rfl ?_
        refine ri_zreturn h d_Md_isSameFrom_85 (Nat.le_of_ble_eq_true rfl) (Nat.le_of_ble_eq_true rfl) (by first | rfl | assumption) ?_
        exact ⟨by rw [eb]; rfl, rfl⟩
      · omega
    | succ q ih =>
      intro k hk hlt
      have hkn : k < n := by omega
      have ho := oix_lt (n := n) (f := f) (k := k) (s := s) (by omega)
      refine ri_iload h d_Md_isSameFrom_3 rfl ?_
      refine ri_iload_n h d_Md_isSameFrom_5 rfl ?_
      first | refine ri_icmpN_ge h 84 d_Md_isSameFrom_6 (by decide) (by omega) (by omega) (fun c_6 => ?_) (fun c_6 => ?_) | refine ri_icmp_ge h 84 d_Md_isSameFrom_6 (by decide) (fun c_6 => ?_) (fun c_6 => ?_)
      · omega
      refine ri_ldcN h 72000 d_Md_isSameFrom_9 kc_Md_172 rfl ?_
      refine ri_bipushN h 24 d_Md_isSameFrom_11 rfl ?_
      refine ri_iload_n h d_Md_isSameFrom_13 rfl ?_
      first | refine ri_imulN h d_Md_isSameFrom_14 ?_ | refine ri_imul h d_Md_isSameFrom_14 ?_
      first | refine ri_iaddN h d_Md_isSameFrom_15 ?_ | refine ri_iadd h d_Md_isSameFrom_15 ?_
      refine ri_iload h d_Md_isSameFrom_16 rfl ?_
      refine ri_iload h d_Md_isSameFrom_18 rfl ?_
      refine ri_iload h d_Md_isSameFrom_20 rfl ?_
      refine ri_imul h d_Md_isSameFrom_22 ?_
      refine ri_iadd h d_Md_isSameFrom_23 ?_
      refine ri_iload_n h d_Md_isSameFrom_24 rfl ?_
      refine ri_iadd h d_Md_isSameFrom_25 ?_
      refine ri_iload_n h d_Md_isSameFrom_26 rfl ?_
      refine ri_irem h d_Md_isSameFrom_27 hn0 ?_
      rw [oix_rem hn hf hkn hs]
      first | refine ri_iaddN h d_Md_isSameFrom_28 ?_ | refine ri_iadd h d_Md_isSameFrom_28 ?_
      refine ri_istore h d_Md_isSameFrom_29 (Nat.le_of_ble_eq_true rfl) ?_
      refine ri_bipushN h 24 d_Md_isSameFrom_31 rfl ?_
      refine ri_iload_n h d_Md_isSameFrom_33 rfl ?_
      first | refine ri_imulN h d_Md_isSameFrom_34 ?_ | refine ri_imul h d_Md_isSameFrom_34 ?_
      refine ri_iload h d_Md_isSameFrom_35 rfl ?_
      first | refine ri_iaddN h d_Md_isSameFrom_37 ?_ | refine ri_iadd h d_Md_isSameFrom_37 ?_
      refine ri_istore h d_Md_isSameFrom_38 (Nat.le_of_ble_eq_true rfl) ?_
      refine ri_aload_n h d_Md_isSameFrom_40 rfl ?_
      refine ri_get h d_Md_isSameFrom_41 fl_Md_64 (by first | assumption | exact hS.mo | exact gup_s) (by rfl) ?_
      refine ri_iload h d_Md_isSameFrom_44 rfl ?_
      refine ri_laldE h _ d_Md_isSameFrom_46 (by first | assumption | exact hS.a22) (by first | rfl | assumption) (by first | assumption | omega) (by first | decide | omega) (by first | assumption | exact hm.i22 (by first | assumption | omega) (by first | assumption | omega) | rfl) ?_
      refine ri_aload_n h d_Md_isSameFrom_47 rfl ?_
      refine ri_get h d_Md_isSameFrom_48 fl_Md_64 (by first | assumption | exact hS.mo | exact gup_s) (by rfl) ?_
      refine ri_iload h d_Md_isSameFrom_51 rfl ?_
      refine ri_laldE h _ d_Md_isSameFrom_53 (by first | assumption | exact hS.a22) (by first | rfl | assumption) (by first | assumption | omega) (by first | decide | omega) (by first | assumption | exact hm.i22 (by first | assumption | omega) (by first | assumption | omega) | rfl) ?_
      refine ri_lcmp_ne h 76 d_Md_isSameFrom_54 d_Md_isSameFrom_55 (by decide) (fun c_54 => ?_) (fun c_54 => ?_)
      · have eb := hno (fun q => c_54 (q k hkn).1)
        refine ri_iconstN h 0 d_Md_isSameFrom_76 rfl ?_
        refine ri_zreturn h d_Md_isSameFrom_77 (Nat.le_of_ble_eq_true rfl) (Nat.le_of_ble_eq_true rfl) (by first | rfl | assumption) ?_
        exact ⟨by rw [eb]; rfl, rfl⟩
      · refine ri_aload_n h d_Md_isSameFrom_58 rfl ?_
        refine ri_get h d_Md_isSameFrom_59 fl_Md_67 (by first | assumption | exact hS.mo | exact gup_s) (by rfl) ?_
        refine ri_iload h d_Md_isSameFrom_62 rfl ?_
        refine ri_laldE h _ d_Md_isSameFrom_64 (by first | assumption | exact hS.a23) (by first | rfl | assumption) (by first | assumption | omega) (by first | decide | omega) (by first | assumption | exact hm.i23 (by first | assumption | omega) (by first | assumption | omega) | rfl) ?_
        refine ri_aload_n h d_Md_isSameFrom_65 rfl ?_
        refine ri_get h d_Md_isSameFrom_66 fl_Md_67 (by first | assumption | exact hS.mo | exact gup_s) (by rfl) ?_
        refine ri_iload h d_Md_isSameFrom_69 rfl ?_
        refine ri_laldE h _ d_Md_isSameFrom_71 (by first | assumption | exact hS.a23) (by first | rfl | assumption) (by first | assumption | omega) (by first | decide | omega) (by first | assumption | exact hm.i23 (by first | assumption | omega) (by first | assumption | omega) | rfl) ?_
        refine ri_lcmp_eq h 78 d_Md_isSameFrom_72 d_Md_isSameFrom_73 (by decide) (fun c_72 => ?_) (fun c_72 => ?_)
        · first | refine ri_iincN h d_Md_isSameFrom_78 rfl (Nat.le_of_ble_eq_true rfl) ?_ | refine ri_iinc h _ d_Md_isSameFrom_78 rfl rfl (Nat.le_of_ble_eq_true rfl) ?_
          refine ri_goto h 3 d_Md_isSameFrom_81 (by decide) ?_
          refine ri_ls [(0, .ref (ad 30 0)), (1, .int (nI a)), (2, .int (nI b)), (3, .int (nI n)), (4, .int (nI f)), (5, .int s), (6, .int (nI (k + 1)))] ⟨rfl, rfl, rfl, rfl, rfl, rfl, rfl, trivial⟩ (ih (k + 1) (by omega) (fun j hj => ?_))
          rcases (show j < k ∨ j = k by omega) with q | rfl
          · exact hlt j q
          · exact ⟨c_54, c_72⟩
        · have eb := hno (fun q => c_72 (q k hkn).2)
          refine ri_iconstN h 0 d_Md_isSameFrom_76 rfl ?_
          refine ri_zreturn h d_Md_isSameFrom_77 (Nat.le_of_ble_eq_true rfl) (Nat.le_of_ble_eq_true rfl) (by first | rfl | assumption) ?_
          exact ⟨by rw [eb]; rfl, rfl⟩
  refine ri_iconstN h 0 d_Md_isSameFrom_0 rfl ?_
  refine ri_istore h d_Md_isSameFrom_1 (Nat.le_of_ble_eq_true rfl) ?_
  exact ri_ls [(0, .ref (ad 30 0)), (1, .int (nI a)), (2, .int (nI b)), (3, .int (nI n)), (4, .int (nI f)), (5, .int s), (6, .int (nI 0))] ⟨rfl, rfl, rfl, rfl, rfl, rfl, rfl, trivial⟩ (LP n 0 (by omega) (fun j hj => by omega))
/-- what is known of a flat shape -/
def itO (Q : CS) (w : It) : Prop := w.1 < Q.nS ∧ w.2.1 < 8 ∧ (Q.sh w.1).cnt ≤ 24 ∧ 0 < (Q.sh w.1).cnt ∧ Big w.2.2.1 ∧ Big w.2.2.2 ∧ WPt (Q.sh w.1)
theorem itO.pt {w : It} (h : itO Q w) {k : Nat} (hk : k < (Q.sh w.1).cnt) : (w.2.2.1 + tX w.2.1 ((Q.sh w.1).xs k) ((Q.sh w.1).ys k)).toInt = w.2.2.1.toInt + nX (Q.sh w.1) w.2.1 k ∧ (w.2.2.2 + tY w.2.1 ((Q.sh w.1).xs k) ((Q.sh w.1).ys k)).toInt = w.2.2.2.toInt + nY (Q.sh w.1) w.2.1 k := by
  obtain ⟨-, h2, -, -, h5, h6, h7⟩ := h
  have f1 := flat_i (h7.1 k hk) h2 h5 h6
  have f2 := nX_i h7 h2 hk
  rw [f2.1, f2.2]
  exact ⟨f1.1, f1.2.1⟩
theorem key_sf {w w' : It} (h : itO Q w) (h' : itO Q w') (hf : fIt Q N 0 a w) (hf' : fIt Q N 1 b w') (hk : kind (Q.sh w.1) (Q.sh w'.1)) : key Q w = key Q w' ↔ ∃ (f : Nat) (s : Int32), alw (Q.sh w.1) f s ∧ SF N a b (Q.sh w.1).cnt f s := by
  have e := same_key (t := w.2.1) (t' := w'.2.1) (X := w.2.2.1.toInt) (Y := w.2.2.2.toInt) (X' := w'.2.2.1.toInt) (Y' := w'.2.2.2.toInt) h.2.2.2.1 hk
  refine Iff.trans e (exists_congr fun f => exists_congr fun s => and_congr_right fun _ => forall_congr' fun k => imp_congr_right fun hkn => ?_)
  have ho : oix (Q.sh w.1).cnt f s k < (Q.sh w'.1).cnt := by rw [← hk.2.2.2]; exact oix_lt h.2.2.2.1
  have p1 := h.pt hkn
  have p2 := h'.pt ho
  have g1 := hf.2.2 k hkn
  have g2 := hf'.2.2 _ ho
  have i1 : 72000 * 0 + 24 * a + k = 24 * a + k := by omega
  have i2 : 72000 * 1 + 24 * b + oix (Q.sh w.1).cnt f s k = 72000 + 24 * b + oix (Q.sh w.1).cnt f s k := by omega
  rw [i1] at g1
  rw [i2] at g2
  rw [g1.1, g1.2, g2.1, g2.2, ← Int64.toInt_inj, ← Int64.toInt_inj, p1.1, p1.2, p2.1, p2.2]
theorem k_misSame (h0 : g_0 l D s0) (hS : HS z ad Qc N M) (hm : MR0 Q N) (hWF : WF Q) (ha : a < 3000) (hb : b < 3000) {w w' : It} (hf : fIt Q N 0 a w) (hf' : fIt Q N 1 b w') (h1 : itO Q w) (h2 : itO Q w') {bb : Int32} (hbb : (bb = 1 ∧ key Q w = key Q w') ∨ (bb = 0 ∧ ¬ key Q w = key Q w')) : Ct l D s0 y_Md_isSame (Cond.code y_Md_isSame b_Md_isSame 7 (some .boolean)) (rk 1 0 0) [.ref (ad 30 0), .int (nI a), .int (nI b)] M (fR (some (.int bb)) M) := by
  have hyes : key Q w = key Q w' → bb = 1 := fun q => by
    rcases hbb with ⟨e, -⟩ | ⟨-, q'⟩
    · exact e
    · exact absurd q q'
  have hno : ¬ key Q w = key Q w' → bb = 0 := fun q => by
    rcases hbb with ⟨-, q'⟩ | ⟨e, -⟩
    · exact absurd q' q
    · exact e
  have hkk : key Q w = key Q w' → kind (Q.sh w.1) (Q.sh w'.1) := fun q => (keyR_eq.mp q).1
  have hsf := fun hk => key_sf h1 h2 hf hf' hk
  have hb2 := hWF.wb.2.1
  obtain ⟨s1, s2, s3, s4, -⟩ := h1
  obtain ⟨t1, t2, t3, t4, -⟩ := h2
  have f24 : N.i 24 a = nI w.1 := by have := hf.1; rw [show 3000 * 0 + a = a by omega] at this; exact this
  have f25 : N.i 25 a = nI (Q.sh w.1).cnt := by have := hf.2.1; rw [show 3000 * 0 + a = a by omega] at this; exact this
  have g24 : N.i 24 (3000 + b) = nI w'.1 := hf'.1
  have g25 : N.i 25 (3000 + b) = nI (Q.sh w'.1).cnt := hf'.2.1
  generalize hn : (Q.sh w.1).cnt = n at *
  refine Ct.of h0 (by decide +kernel) rfl fun X hX h => ?_
  obtain ⟨p_, l', e_, R_, s_, m_, ar_, be_, me_, c_⟩ := X
  obtain rfl : l' = l := hX
  have A93 : kind (Q.sh w.1) (Q.sh w'.1) → G (gzz D s0 (p_, l', e_, R_, s_, m_, ar_, be_, me_, c_) (rk 1 0 0) (fR (some (.int bb)) M) 7) 93 [(0, .ref (ad 30 0)), (1, .int (nI a)), (2, .int (nI b)), (3, .int (nI w.1)), (5, .int (nI n))] [] M 0 0 := by
    intro hk
    have hsf := hsf hk
    by_cases hw : 0 < (Q.sh w.1).w
    · refine ri_aload_n h d_Md_isSame_93 rfl ?_
      refine ri_get h d_Md_isSame_94 fl_Md_16 (by first | assumption | exact hS.mo | exact gup_s) (by rfl) ?_
      refine ri_iload_n h d_Md_isSame_97 rfl ?_
      refine ri_laldE h _ d_Md_isSame_98 (by first | assumption | exact hS.a5) (by first | rfl | assumption) (by first | assumption | omega) (by first | decide | omega) (by first | assumption | exact hm.i5 (by first | assumption | omega) | rfl) ?_
      refine ri_lconst h 0 d_Md_isSame_99 rfl ?_
      refine ri_lcmp_le h 139 d_Md_isSame_100 d_Md_isSame_101 (by decide) (fun c_100 => ?_) (fun c_100 => ?_)
      · first | exact absurd hw c_100 | exact absurd hw (Int64.not_lt.mpr c_100)
      have hal : ∀ f s, alw (Q.sh w.1) f s → (f = 0 ∧ s = 1) ∨ (f = n - 1 ∧ s = -1) := fun f s q => by
        rcases q with ⟨-, q⟩ | ⟨q, -⟩
        · rw [hn] at q; exact q
        · exact absurd hw q
      have al1 : alw (Q.sh w.1) 0 1 := Or.inl ⟨hw, Or.inl ⟨rfl, rfl⟩⟩
      have al2 : alw (Q.sh w.1) (n - 1) (-1) := Or.inl ⟨hw, Or.inr ⟨by rw [hn], rfl⟩⟩
      have Y : ∀ f s, alw (Q.sh w.1) f s → SF N a b n f s → G (gzz D s0 (p_, l', e_, R_, s_, m_, ar_, be_, me_, c_) (rk 1 0 0) (fR (some (.int bb)) M) 7) 133 [] [] M 0 0 := fun f s q1 q2 => by
        have eb := hyes (hsf.mpr ⟨f, s, q1, q2⟩)
        refine ri_iconstN h 1 d_Md_isSame_133 rfl ?_
        refine ri_goto h 138 d_Md_isSame_134 (by decide) ?_
        refine ri_zreturn h d_Md_isSame_138 (Nat.le_of_ble_eq_true rfl) (Nat.le_of_ble_eq_true rfl) (by first | rfl | assumption) ?_
        exact ⟨by rw [eb]; rfl, rfl⟩
      by_cases p1 : SF N a b n 0 (nI 1)
      · refine ri_aload_n h d_Md_isSame_104 rfl ?_
        refine ri_iload_n h d_Md_isSame_105 rfl ?_
        refine ri_iload_n h d_Md_isSame_106 rfl ?_
        refine ri_iload h d_Md_isSame_107 rfl ?_
        refine ri_iconstN h 0 d_Md_isSame_109 rfl ?_
        refine ri_iconstN h 1 d_Md_isSame_110 rfl ?_
        refine ri_cVv_5 (r := (gR6, gT6, 44)) h d_Md_isSame_111 cv_Md_224 (by first | exact hS.lcO | exact hS.lsO | exact hS.lpO | exact hS.cesO (by first | assumption | omega) | exact hS.cepO (by first | assumption | omega) | exact ⟨_, (by first | assumption | exact hS.st | exact hS.mo | exact hS.out | exact hS.sb | exact hS.ce (by first | assumption | omega) | exact hS.ceb (by first | assumption | omega) | exact hS.sh (by first | assumption | omega) | exact hS.shb (by first | assumption | omega) | exact hS.pl (by first | assumption | omega) | exact hS.plb (by first | assumption | omega) | exact hS.fl (by first | assumption | omega) | exact gup_s | (refine gup_t (by assumption) ?_; first | assumption | exact gup_s | (refine gup_t (by assumption) ?_; first | assumption | exact gup_s | (refine gup_t (by assumption) ?_; first | assumption | exact gup_s))))⟩) rfl (k_mSF (s := nI 1) (bb := nI 1) h0 hS ha hb s3 (show 0 < n by omega) (Or.inl rfl) (Or.inl ⟨rfl, p1⟩)) (Nat.le_of_ble_eq_true rfl) (Nat.le_of_ble_eq_true rfl) (Nat.le_of_ble_eq_true rfl) (Nat.le_of_ble_eq_true rfl) (Nat.le_of_ble_eq_true rfl) ?_
        first | refine ri_ifB_ne h 133 d_Md_isSame_114 (by decide) (fun c_114 => ?_) (fun c_114 => ?_) | refine ri_ifN_ne h 133 d_Md_isSame_114 (by decide) (by omega) (fun c_114 => ?_) (fun c_114 => ?_) | refine ri_if_ne h 133 d_Md_isSame_114 (by decide) (fun c_114 => ?_) (fun c_114 => ?_)
        · exact ri_ls [] trivial (Y 0 1 al1 p1)
        · exact absurd c_114 (by decide)
      · refine ri_aload_n h d_Md_isSame_104 rfl ?_
        refine ri_iload_n h d_Md_isSame_105 rfl ?_
        refine ri_iload_n h d_Md_isSame_106 rfl ?_
        refine ri_iload h d_Md_isSame_107 rfl ?_
        refine ri_iconstN h 0 d_Md_isSame_109 rfl ?_
        refine ri_iconstN h 1 d_Md_isSame_110 rfl ?_
        refine ri_cVv_5 (r := (gR6, gT6, 44)) h d_Md_isSame_111 cv_Md_224 (by first | exact hS.lcO | exact hS.lsO | exact hS.lpO | exact hS.cesO (by first | assumption | omega) | exact hS.cepO (by first | assumption | omega) | exact ⟨_, (by first | assumption | exact hS.st | exact hS.mo | exact hS.out | exact hS.sb | exact hS.ce (by first | assumption | omega) | exact hS.ceb (by first | assumption | omega) | exact hS.sh (by first | assumption | omega) | exact hS.shb (by first | assumption | omega) | exact hS.pl (by first | assumption | omega) | exact hS.plb (by first | assumption | omega) | exact hS.fl (by first | assumption | omega) | exact gup_s | (refine gup_t (by assumption) ?_; first | assumption | exact gup_s | (refine gup_t (by assumption) ?_; first | assumption | exact gup_s | (refine gup_t (by assumption) ?_; first | assumption | exact gup_s))))⟩) rfl (k_mSF (s := nI 1) (bb := nI 0) h0 hS ha hb s3 (show 0 < n by omega) (Or.inl rfl) (Or.inr ⟨rfl, p1⟩)) (Nat.le_of_ble_eq_true rfl) (Nat.le_of_ble_eq_true rfl) (Nat.le_of_ble_eq_true rfl) (Nat.le_of_ble_eq_true rfl) (Nat.le_of_ble_eq_true rfl) ?_
        first | refine ri_ifB_ne h 133 d_Md_isSame_114 (by decide) (fun c_114 => ?_) (fun c_114 => ?_) | refine ri_ifN_ne h 133 d_Md_isSame_114 (by decide) (by omega) (fun c_114 => ?_) (fun c_114 => ?_) | refine ri_if_ne h 133 d_Md_isSame_114 (by decide) (fun c_114 => ?_) (fun c_114 => ?_)
        · exact absurd rfl c_114
        by_cases p2 : SF N a b n (n - 1) (-1)
        · refine ri_aload_n h d_Md_isSame_117 rfl ?_
          refine ri_iload_n h d_Md_isSame_118 rfl ?_
          refine ri_iload_n h d_Md_isSame_119 rfl ?_
          refine ri_iload h d_Md_isSame_120 rfl ?_
          refine ri_iload h d_Md_isSame_122 rfl ?_
          refine ri_iconstN h 1 d_Md_isSame_124 rfl ?_
          first | refine ri_isubN h d_Md_isSame_125 (by first | omega | exact Nat.le_add_left _ _) ?_ | refine ri_isub h d_Md_isSame_125 ?_
          refine ri_iconst h (-1) d_Md_isSame_126 rfl ?_
          refine ri_cVv_5 (r := (gR6, gT6, 44)) h d_Md_isSame_127 cv_Md_224 (by first | exact hS.lcO | exact hS.lsO | exact hS.lpO | exact hS.cesO (by first | assumption | omega) | exact hS.cepO (by first | assumption | omega) | exact ⟨_, (by first | assumption | exact hS.st | exact hS.mo | exact hS.out | exact hS.sb | exact hS.ce (by first | assumption | omega) | exact hS.ceb (by first | assumption | omega) | exact hS.sh (by first | assumption | omega) | exact hS.shb (by first | assumption | omega) | exact hS.pl (by first | assumption | omega) | exact hS.plb (by first | assumption | omega) | exact hS.fl (by first | assumption | omega) | exact gup_s | (refine gup_t (by assumption) ?_; first | assumption | exact gup_s | (refine gup_t (by assumption) ?_; first | assumption | exact gup_s | (refine gup_t (by assumption) ?_; first | assumption | exact gup_s))))⟩) rfl (k_mSF (s := -1) (bb := nI 1) h0 hS ha hb s3 (show n - 1 < n by omega) (Or.inr rfl) (Or.inl ⟨rfl, p2⟩)) (Nat.le_of_ble_eq_true rfl) (Nat.le_of_ble_eq_true rfl) (Nat.le_of_ble_eq_true rfl) (Nat.le_of_ble_eq_true rfl) (Nat.le_of_ble_eq_true rfl) ?_
          first | refine ri_ifB_eq h 137 d_Md_isSame_130 (by decide) (fun c_130 => ?_) (fun c_130 => ?_) | refine ri_ifN_eq h 137 d_Md_isSame_130 (by decide) (by omega) (fun c_130 => ?_) (fun c_130 => ?_) | refine ri_if_eq h 137 d_Md_isSame_130 (by decide) (fun c_130 => ?_) (fun c_130 => ?_)
          · exact absurd c_130 (by decide)
          · exact ri_ls [] trivial (Y (n - 1) (-1) al2 p2)
        · refine ri_aload_n h d_Md_isSame_117 rfl ?_
          refine ri_iload_n h d_Md_isSame_118 rfl ?_
          refine ri_iload_n h d_Md_isSame_119 rfl ?_
          refine ri_iload h d_Md_isSame_120 rfl ?_
          refine ri_iload h d_Md_isSame_122 rfl ?_
          refine ri_iconstN h 1 d_Md_isSame_124 rfl ?_
          first | refine ri_isubN h d_Md_isSame_125 (by first | omega | exact Nat.le_add_left _ _) ?_ | refine ri_isub h d_Md_isSame_125 ?_
          refine ri_iconst h (-1) d_Md_isSame_126 rfl ?_
          refine ri_cVv_5 (r := (gR6, gT6, 44)) h d_Md_isSame_127 cv_Md_224 (by first | exact hS.lcO | exact hS.lsO | exact hS.lpO | exact hS.cesO (by first | assumption | omega) | exact hS.cepO (by first | assumption | omega) | exact ⟨_, (by first | assumption | exact hS.st | exact hS.mo | exact hS.out | exact hS.sb | exact hS.ce (by first | assumption | omega) | exact hS.ceb (by first | assumption | omega) | exact hS.sh (by first | assumption | omega) | exact hS.shb (by first | assumption | omega) | exact hS.pl (by first | assumption | omega) | exact hS.plb (by first | assumption | omega) | exact hS.fl (by first | assumption | omega) | exact gup_s | (refine gup_t (by assumption) ?_; first | assumption | exact gup_s | (refine gup_t (by assumption) ?_; first | assumption | exact gup_s | (refine gup_t (by assumption) ?_; first | assumption | exact gup_s))))⟩) rfl (k_mSF (s := -1) (bb := nI 0) h0 hS ha hb s3 (show n - 1 < n by omega) (Or.inr rfl) (Or.inr ⟨rfl, p2⟩)) (Nat.le_of_ble_eq_true rfl) (Nat.le_of_ble_eq_true rfl) (Nat.le_of_ble_eq_true rfl) (Nat.le_of_ble_eq_true rfl) (Nat.le_of_ble_eq_true rfl) ?_
          first | refine ri_ifB_eq h 137 d_Md_isSame_130 (by decide) (fun c_130 => ?_) (fun c_130 => ?_) | refine ri_ifN_eq h 137 d_Md_isSame_130 (by decide) (by omega) (fun c_130 => ?_) (fun c_130 => ?_) | refine ri_if_eq h 137 d_Md_isSame_130 (by decide) (fun c_130 => ?_) (fun c_130 => ?_)
          · have hneg : ¬ key Q w = key Q w' := fun q => by
              obtain ⟨f, s, q1, q2⟩ := hsf.mp q
              rcases hal f s q1 with ⟨rfl, rfl⟩ | ⟨rfl, rfl⟩
              · exact p1 q2
              · exact p2 q2
            have eb := hno hneg
            refine ri_iconstN h 0 d_Md_isSame_137 rfl ?_
            refine ri_zreturn h d_Md_isSame_138 (Nat.le_of_ble_eq_true rfl) (Nat.le_of_ble_eq_true rfl) (by first | rfl | assumption) ?_
            exact ⟨by rw [eb]; rfl, rfl⟩
          · exact absurd rfl c_130
    · refine ri_aload_n h d_Md_isSame_93 rfl ?_
      refine ri_get h d_Md_isSame_94 fl_Md_16 (by first | assumption | exact hS.mo | exact gup_s) (by rfl) ?_
      refine ri_iload_n h d_Md_isSame_97 rfl ?_
      refine ri_laldE h _ d_Md_isSame_98 (by first | assumption | exact hS.a5) (by first | rfl | assumption) (by first | assumption | omega) (by first | decide | omega) (by first | assumption | exact hm.i5 (by first | assumption | omega) | rfl) ?_
      refine ri_lconst h 0 d_Md_isSame_99 rfl ?_
      refine ri_lcmp_le h 139 d_Md_isSame_100 d_Md_isSame_101 (by decide) (fun c_100 => ?_) (fun c_100 => ?_)
      · have LP : ∀ (q f : Nat), f + q = n → (∀ f', f' < f → ¬ SF N a b n f' 1 ∧ ¬ SF N a b n f' (-1)) → G (gzz D s0 (p_, l', e_, R_, s_, m_, ar_, be_, me_, c_) (rk 1 0 0) (fR (some (.int bb)) M) 7) 142 [(0, .ref (ad 30 0)), (1, .int (nI a)), (2, .int (nI b)), (5, .int (nI n)), (6, .int (nI f))] [] M 0 0 := by
          intro q
          induction q with
          | zero =>
            intro f hq hlt
            have hneg : ¬ key Q w = key Q w' := fun q => by
              obtain ⟨f', s, q1, q2⟩ := hsf.mp q
              rcases q1 with ⟨q1, -⟩ | ⟨-, q1, q3⟩
              · exact absurd q1 hw
              · have := hlt f' (by omega)
                rcases q3 with rfl | rfl
                · exact this.1 q2
                · exact this.2 q2
            refine ri_iload h d_Md_isSame_142 rfl ?_
            refine ri_iload h d_Md_isSame_144 rfl ?_
            first | refine ri_icmpN_ge h 185 d_Md_isSame_146 (by decide) (by omega) (by omega) (fun c_146 => ?_) (fun c_146 => ?_) | refine ri_icmp_ge h 185 d_Md_isSame_146 (by decide) (fun c_146 => ?_) (fun c_146 => ?_)
            · have eb := hno hneg
              refine ri_iconstN h 0 d_Md_isSame_185 rfl ?_
              refine ri_zreturn h d_Md_isSame_186 (Nat.le_of_ble_eq_true rfl) (Nat.le_of_ble_eq_true rfl) (by first | rfl | assumption) ?_
              exact ⟨by rw [eb]; rfl, rfl⟩
            · omega
          | succ q ih =>
            intro f hq hlt
            have hfn : f < n := by omega
            have Y : ∀ s, (s = 1 ∨ s = -1) → SF N a b n f s → G (gzz D s0 (p_, l', e_, R_, s_, m_, ar_, be_, me_, c_) (rk 1 0 0) (fR (some (.int bb)) M) 7) 177 [] [] M 0 0 := fun s q1 q2 => by
              have eb := hyes (hsf.mpr ⟨f, s, Or.inr ⟨hw, by omega, q1⟩, q2⟩)
              refine ri_iconstN h 1 d_Md_isSame_177 rfl ?_
              refine ri_zreturn h d_Md_isSame_178 (Nat.le_of_ble_eq_true rfl) (Nat.le_of_ble_eq_true rfl) (by first | rfl | assumption) ?_
              exact ⟨by rw [eb]; rfl, rfl⟩
            by_cases p1 : SF N a b n f (nI 1)
            · refine ri_iload h d_Md_isSame_142 rfl ?_
              refine ri_iload h d_Md_isSame_144 rfl ?_
              first | refine ri_icmpN_ge h 185 d_Md_isSame_146 (by decide) (by omega) (by omega) (fun c_146 => ?_) (fun c_146 => ?_) | refine ri_icmp_ge h 185 d_Md_isSame_146 (by decide) (fun c_146 => ?_) (fun c_146 => ?_)
              · omega
              refine ri_aload_n h d_Md_isSame_149 rfl ?_
              refine ri_iload_n h d_Md_isSame_150 rfl ?_
              refine ri_iload_n h d_Md_isSame_151 rfl ?_
              refine ri_iload h d_Md_isSame_152 rfl ?_
              refine ri_iload h d_Md_isSame_154 rfl ?_
              refine ri_iconstN h 1 d_Md_isSame_156 rfl ?_
              refine ri_cVv_5 (r := (gR6, gT6, 44)) h d_Md_isSame_157 cv_Md_224 (by first | exact hS.lcO | exact hS.lsO | exact hS.lpO | exact hS.cesO (by first | assumption | omega) | exact hS.cepO (by first | assumption | omega) | exact ⟨_, (by first | assumption | exact hS.st | exact hS.mo | exact hS.out | exact hS.sb | exact hS.ce (by first | assumption | omega) | exact hS.ceb (by first | assumption | omega) | exact hS.sh (by first | assumption | omega) | exact hS.shb (by first | assumption | omega) | exact hS.pl (by first | assumption | omega) | exact hS.plb (by first | assumption | omega) | exact hS.fl (by first | assumption | omega) | exact gup_s | (refine gup_t (by assumption) ?_; first | assumption | exact gup_s | (refine gup_t (by assumption) ?_; first | assumption | exact gup_s | (refine gup_t (by assumption) ?_; first | assumption | exact gup_s))))⟩) rfl (k_mSF (s := nI 1) (bb := nI 1) h0 hS ha hb s3 hfn (Or.inl rfl) (Or.inl ⟨rfl, p1⟩)) (Nat.le_of_ble_eq_true rfl) (Nat.le_of_ble_eq_true rfl) (Nat.le_of_ble_eq_true rfl) (Nat.le_of_ble_eq_true rfl) (Nat.le_of_ble_eq_true rfl) ?_
              first | refine ri_ifB_ne h 177 d_Md_isSame_160 (by decide) (fun c_160 => ?_) (fun c_160 => ?_) | refine ri_ifN_ne h 177 d_Md_isSame_160 (by decide) (by omega) (fun c_160 => ?_) (fun c_160 => ?_) | refine ri_if_ne h 177 d_Md_isSame_160 (by decide) (fun c_160 => ?_) (fun c_160 => ?_)
              · exact ri_ls [] trivial (Y 1 (Or.inl rfl) p1)
              · exact absurd c_160 (by decide)
            · refine ri_iload h d_Md_isSame_142 rfl ?_
              refine ri_iload h d_Md_isSame_144 rfl ?_
              first | refine ri_icmpN_ge h 185 d_Md_isSame_146 (by decide) (by omega) (by omega) (fun c_146 => ?_) (fun c_146 => ?_) | refine ri_icmp_ge h 185 d_Md_isSame_146 (by decide) (fun c_146 => ?_) (fun c_146 => ?_)
              · omega
              refine ri_aload_n h d_Md_isSame_149 rfl ?_
              refine ri_iload_n h d_Md_isSame_150 rfl ?_
              refine ri_iload_n h d_Md_isSame_151 rfl ?_
              refine ri_iload h d_Md_isSame_152 rfl ?_
              refine ri_iload h d_Md_isSame_154 rfl ?_
              refine ri_iconstN h 1 d_Md_isSame_156 rfl ?_
              refine ri_cVv_5 (r := (gR6, gT6, 44)) h d_Md_isSame_157 cv_Md_224 (by first | exact hS.lcO | exact hS.lsO | exact hS.lpO | exact hS.cesO (by first | assumption | omega) | exact hS.cepO (by first | assumption | omega) | exact ⟨_, (by first | assumption | exact hS.st | exact hS.mo | exact hS.out | exact hS.sb | exact hS.ce (by first | assumption | omega) | exact hS.ceb (by first | assumption | omega) | exact hS.sh (by first | assumption | omega) | exact hS.shb (by first | assumption | omega) | exact hS.pl (by first | assumption | omega) | exact hS.plb (by first | assumption | omega) | exact hS.fl (by first | assumption | omega) | exact gup_s | (refine gup_t (by assumption) ?_; first | assumption | exact gup_s | (refine gup_t (by assumption) ?_; first | assumption | exact gup_s | (refine gup_t (by assumption) ?_; first | assumption | exact gup_s))))⟩) rfl (k_mSF (s := nI 1) (bb := nI 0) h0 hS ha hb s3 hfn (Or.inl rfl) (Or.inr ⟨rfl, p1⟩)) (Nat.le_of_ble_eq_true rfl) (Nat.le_of_ble_eq_true rfl) (Nat.le_of_ble_eq_true rfl) (Nat.le_of_ble_eq_true rfl) (Nat.le_of_ble_eq_true rfl) ?_
              first | refine ri_ifB_ne h 177 d_Md_isSame_160 (by decide) (fun c_160 => ?_) (fun c_160 => ?_) | refine ri_ifN_ne h 177 d_Md_isSame_160 (by decide) (by omega) (fun c_160 => ?_) (fun c_160 => ?_) | refine ri_if_ne h 177 d_Md_isSame_160 (by decide) (fun c_160 => ?_) (fun c_160 => ?_)
              · exact absurd rfl c_160
              by_cases p2 : SF N a b n f (-1)
              · refine ri_aload_n h d_Md_isSame_163 rfl ?_
                refine ri_iload_n h d_Md_isSame_164 rfl ?_
                refine ri_iload_n h d_Md_isSame_165 rfl ?_
                refine ri_iload h d_Md_isSame_166 rfl ?_
                refine ri_iload h d_Md_isSame_168 rfl ?_
                refine ri_iconst h (-1) d_Md_isSame_170 rfl ?_
                refine ri_cVv_5 (r := (gR6, gT6, 44)) h d_Md_isSame_171 cv_Md_224 (by first | exact hS.lcO | exact hS.lsO | exact hS.lpO | exact hS.cesO (by first | assumption | omega) | exact hS.cepO (by first | assumption | omega) | exact ⟨_, (by first | assumption | exact hS.st | exact hS.mo | exact hS.out | exact hS.sb | exact hS.ce (by first | assumption | omega) | exact hS.ceb (by first | assumption | omega) | exact hS.sh (by first | assumption | omega) | exact hS.shb (by first | assumption | omega) | exact hS.pl (by first | assumption | omega) | exact hS.plb (by first | assumption | omega) | exact hS.fl (by first | assumption | omega) | exact gup_s | (refine gup_t (by assumption) ?_; first | assumption | exact gup_s | (refine gup_t (by assumption) ?_; first | assumption | exact gup_s | (refine gup_t (by assumption) ?_; first | assumption | exact gup_s))))⟩) rfl (k_mSF (s := -1) (bb := nI 1) h0 hS ha hb s3 hfn (Or.inr rfl) (Or.inl ⟨rfl, p2⟩)) (Nat.le_of_ble_eq_true rfl) (Nat.le_of_ble_eq_true rfl) (Nat.le_of_ble_eq_true rfl) (Nat.le_of_ble_eq_true rfl) (Nat.le_of_ble_eq_true rfl) ?_
                first | refine ri_ifB_eq h 179 d_Md_isSame_174 (by decide) (fun c_174 => ?_) (fun c_174 => ?_) | refine ri_ifN_eq h 179 d_Md_isSame_174 (by decide) (by omega) (fun c_174 => ?_) (fun c_174 => ?_) | refine ri_if_eq h 179 d_Md_isSame_174 (by decide) (fun c_174 => ?_) (fun c_174 => ?_)
                · exact absurd c_174 (by decide)
                · exact ri_ls [] trivial (Y (-1) (Or.inr rfl) p2)
              · refine ri_aload_n h d_Md_isSame_163 rfl ?_
                refine ri_iload_n h d_Md_isSame_164 rfl ?_
                refine ri_iload_n h d_Md_isSame_165 rfl ?_
                refine ri_iload h d_Md_isSame_166 rfl ?_
                refine ri_iload h d_Md_isSame_168 rfl ?_
                refine ri_iconst h (-1) d_Md_isSame_170 rfl ?_
                refine ri_cVv_5 (r := (gR6, gT6, 44)) h d_Md_isSame_171 cv_Md_224 (by first | exact hS.lcO | exact hS.lsO | exact hS.lpO | exact hS.cesO (by first | assumption | omega) | exact hS.cepO (by first | assumption | omega) | exact ⟨_, (by first | assumption | exact hS.st | exact hS.mo | exact hS.out | exact hS.sb | exact hS.ce (by first | assumption | omega) | exact hS.ceb (by first | assumption | omega) | exact hS.sh (by first | assumption | omega) | exact hS.shb (by first | assumption | omega) | exact hS.pl (by first | assumption | omega) | exact hS.plb (by first | assumption | omega) | exact hS.fl (by first | assumption | omega) | exact gup_s | (refine gup_t (by assumption) ?_; first | assumption | exact gup_s | (refine gup_t (by assumption) ?_; first | assumption | exact gup_s | (refine gup_t (by assumption) ?_; first | assumption | exact gup_s))))⟩) rfl (k_mSF (s := -1) (bb := nI 0) h0 hS ha hb s3 hfn (Or.inr rfl) (Or.inr ⟨rfl, p2⟩)) (Nat.le_of_ble_eq_true rfl) (Nat.le_of_ble_eq_true rfl) (Nat.le_of_ble_eq_true rfl) (Nat.le_of_ble_eq_true rfl) (Nat.le_of_ble_eq_true rfl) ?_
                first | refine ri_ifB_eq h 179 d_Md_isSame_174 (by decide) (fun c_174 => ?_) (fun c_174 => ?_) | refine ri_ifN_eq h 179 d_Md_isSame_174 (by decide) (by omega) (fun c_174 => ?_) (fun c_174 => ?_) | refine ri_if_eq h 179 d_Md_isSame_174 (by decide) (fun c_174 => ?_) (fun c_174 => ?_)
                · first | refine ri_iincN h d_Md_isSame_179 rfl (Nat.le_of_ble_eq_true rfl) ?_ | refine ri_iinc h _ d_Md_isSame_179 rfl rfl (Nat.le_of_ble_eq_true rfl) ?_
                  refine ri_goto h 142 d_Md_isSame_182 (by decide) ?_
                  refine ri_ls [(0, .ref (ad 30 0)), (1, .int (nI a)), (2, .int (nI b)), (5, .int (nI n)), (6, .int (nI (f + 1)))] ⟨rfl, rfl, rfl, rfl, rfl, trivial⟩ (ih (f + 1) (by omega) (fun f' hf' => ?_))
                  rcases (show f' < f ∨ f' = f by omega) with q | rfl
                  · exact hlt f' q
                  · exact ⟨p1, p2⟩
                · exact absurd rfl c_174
        refine ri_iconstN h 0 d_Md_isSame_139 rfl ?_
        refine ri_istore h d_Md_isSame_140 (Nat.le_of_ble_eq_true rfl) ?_
        exact ri_ls [(0, .ref (ad 30 0)), (1, .int (nI a)), (2, .int (nI b)), (5, .int (nI n)), (6, .int (nI 0))] ⟨rfl, rfl, rfl, rfl, rfl, trivial⟩ (LP n 0 (by omega) (fun f' hf' => by omega))
      · first | exact absurd c_100 hw | exact absurd (Int64.not_le.mp c_100) hw
  have B91 : ¬ kind (Q.sh w.1) (Q.sh w'.1) → G (gzz D s0 (p_, l', e_, R_, s_, m_, ar_, be_, me_, c_) (rk 1 0 0) (fR (some (.int bb)) M) 7) 91 [] [] M 0 0 := by
    intro hk
    have eb := hno (fun q => hk (hkk q))
    refine ri_iconstN h 0 d_Md_isSame_91 rfl ?_
    refine ri_zreturn h d_Md_isSame_92 (Nat.le_of_ble_eq_true rfl) (Nat.le_of_ble_eq_true rfl) (by first | rfl | assumption) ?_
    exact ⟨by rw [eb]; rfl, rfl⟩
  refine ri_aload_n h d_Md_isSame_0 rfl ?_
  refine ri_get h d_Md_isSame_1 fl_Md_70 (by first | assumption | exact hS.mo | exact gup_s) (by rfl) ?_
  refine ri_iload_n h d_Md_isSame_4 rfl ?_
  refine ri_ialdE h _ d_Md_isSame_5 (by first | assumption | exact hS.a24) (by first | rfl | assumption) (by first | assumption | omega) (by first | decide | omega) (by first | assumption | assumption | rfl) ?_
  refine ri_istore_n h d_Md_isSame_6 (Nat.le_of_ble_eq_true rfl) ?_
  refine ri_aload_n h d_Md_isSame_7 rfl ?_
  refine ri_get h d_Md_isSame_8 fl_Md_70 (by first | assumption | exact hS.mo | exact gup_s) (by rfl) ?_
  refine ri_sipushN h 3000 d_Md_isSame_11 rfl ?_
  refine ri_iload_n h d_Md_isSame_14 rfl ?_
  first | refine ri_iaddN h d_Md_isSame_15 ?_ | refine ri_iadd h d_Md_isSame_15 ?_
  refine ri_ialdE h _ d_Md_isSame_16 (by first | assumption | exact hS.a24) (by first | rfl | assumption) (by first | assumption | omega) (by first | decide | omega) (by first | assumption | assumption | rfl) ?_
  refine ri_istore h d_Md_isSame_17 (Nat.le_of_ble_eq_true rfl) ?_
  refine ri_aload_n h d_Md_isSame_19 rfl ?_
  refine ri_get h d_Md_isSame_20 fl_Md_73 (by first | assumption | exact hS.mo | exact gup_s) (by rfl) ?_
  refine ri_iload_n h d_Md_isSame_23 rfl ?_
  refine ri_ialdE h _ d_Md_isSame_24 (by first | assumption | exact hS.a25) (by first | rfl | assumption) (by first | assumption | omega) (by first | decide | omega) (by first | assumption | exact hm.i25 (by first | assumption | omega) | rfl) ?_
  refine ri_istore h d_Md_isSame_25 (Nat.le_of_ble_eq_true rfl) ?_
  refine ri_aload_n h d_Md_isSame_27 rfl ?_
  refine ri_get h d_Md_isSame_28 fl_Md_13 (by first | assumption | exact hS.mo | exact gup_s) (by rfl) ?_
  refine ri_iload_n h d_Md_isSame_31 rfl ?_
  refine ri_ialdE h _ d_Md_isSame_32 (by first | assumption | exact hS.a4) (by first | rfl | assumption) (by first | assumption | omega) (by first | decide | omega) (by first | assumption | exact hm.i4 (by first | assumption | omega) | rfl) ?_
  refine ri_aload_n h d_Md_isSame_33 rfl ?_
  refine ri_get h d_Md_isSame_34 fl_Md_13 (by first | assumption | exact hS.mo | exact gup_s) (by rfl) ?_
  refine ri_iload h d_Md_isSame_37 rfl ?_
  refine ri_ialdE h _ d_Md_isSame_39 (by first | assumption | exact hS.a4) (by first | rfl | assumption) (by first | assumption | omega) (by first | decide | omega) (by first | assumption | exact hm.i4 (by first | assumption | omega) | rfl) ?_
  first | refine ri_icmpN_ne h 91 d_Md_isSame_40 (by decide) (by omega) (by omega) (fun c_40 => ?_) (fun c_40 => ?_) | refine ri_icmp_ne h 91 d_Md_isSame_40 (by decide) (fun c_40 => ?_) (fun c_40 => ?_)
  · exact ri_ls [] trivial (B91 (fun q => by first | exact c_40 q.1 | exact c_56 q.2.1 | exact c_73 q.2.2.1 | exact c_88 (hn.symm.trans q.2.2.2) | exact c_88 q.2.2.2))
  · refine ri_aload_n h d_Md_isSame_43 rfl ?_
    refine ri_get h d_Md_isSame_44 fl_Md_16 (by first | assumption | exact hS.mo | exact gup_s) (by rfl) ?_
    refine ri_iload_n h d_Md_isSame_47 rfl ?_
    refine ri_laldE h _ d_Md_isSame_48 (by first | assumption | exact hS.a5) (by first | rfl | assumption) (by first | assumption | omega) (by first | decide | omega) (by first | assumption | exact hm.i5 (by first | assumption | omega) | rfl) ?_
    refine ri_aload_n h d_Md_isSame_49 rfl ?_
    refine ri_get h d_Md_isSame_50 fl_Md_16 (by first | assumption | exact hS.mo | exact gup_s) (by rfl) ?_
    refine ri_iload h d_Md_isSame_53 rfl ?_
    refine ri_laldE h _ d_Md_isSame_55 (by first | assumption | exact hS.a5) (by first | rfl | assumption) (by first | assumption | omega) (by first | decide | omega) (by first | assumption | exact hm.i5 (by first | assumption | omega) | rfl) ?_
    refine ri_lcmp_ne h 91 d_Md_isSame_56 d_Md_isSame_57 (by decide) (fun c_56 => ?_) (fun c_56 => ?_)
    · exact ri_ls [] trivial (B91 (fun q => by first | exact c_40 q.1 | exact c_56 q.2.1 | exact c_73 q.2.2.1 | exact c_88 (hn.symm.trans q.2.2.2) | exact c_88 q.2.2.2))
    · refine ri_aload_n h d_Md_isSame_60 rfl ?_
      refine ri_get h d_Md_isSame_61 fl_Md_20 (by first | assumption | exact hS.mo | exact gup_s) (by rfl) ?_
      refine ri_iload_n h d_Md_isSame_64 rfl ?_
      refine ri_ialdE h _ d_Md_isSame_65 (by first | assumption | exact hS.a6) (by first | rfl | assumption) (by first | assumption | omega) (by first | decide | omega) (by first | assumption | exact hm.i6 (by first | assumption | omega) | rfl) ?_
      refine ri_aload_n h d_Md_isSame_66 rfl ?_
      refine ri_get h d_Md_isSame_67 fl_Md_20 (by first | assumption | exact hS.mo | exact gup_s) (by rfl) ?_
      refine ri_iload h d_Md_isSame_70 rfl ?_
      refine ri_ialdE h _ d_Md_isSame_72 (by first | assumption | exact hS.a6) (by first | rfl | assumption) (by first | assumption | omega) (by first | decide | omega) (by first | assumption | exact hm.i6 (by first | assumption | omega) | rfl) ?_
      first | refine ri_icmpN_ne h 91 d_Md_isSame_73 (by decide) (by omega) (by omega) (fun c_73 => ?_) (fun c_73 => ?_) | refine ri_icmp_ne h 91 d_Md_isSame_73 (by decide) (fun c_73 => ?_) (fun c_73 => ?_)
      · exact ri_ls [] trivial (B91 (fun q => by first | exact c_40 q.1 | exact c_56 q.2.1 | exact c_73 q.2.2.1 | exact c_88 (hn.symm.trans q.2.2.2) | exact c_88 q.2.2.2))
      · refine ri_iload h d_Md_isSame_76 rfl ?_
        refine ri_aload_n h d_Md_isSame_78 rfl ?_
        refine ri_get h d_Md_isSame_79 fl_Md_73 (by first | assumption | exact hS.mo | exact gup_s) (by rfl) ?_
        refine ri_sipushN h 3000 d_Md_isSame_82 rfl ?_
        refine ri_iload_n h d_Md_isSame_85 rfl ?_
        first | refine ri_iaddN h d_Md_isSame_86 ?_ | refine ri_iadd h d_Md_isSame_86 ?_
        refine ri_ialdE h _ d_Md_isSame_87 (by first | assumption | exact hS.a25) (by first | rfl | assumption) (by first | assumption | omega) (by first | decide | omega) (by first | assumption | exact hm.i25 (by first | assumption | omega) | rfl) ?_
        first | refine ri_icmpN_eq h 93 d_Md_isSame_88 (by decide) (by omega) (by omega) (fun c_88 => ?_) (fun c_88 => ?_) | refine ri_icmp_eq h 93 d_Md_isSame_88 (by decide) (fun c_88 => ?_) (fun c_88 => ?_)
        · exact ri_ls [(0, .ref (ad 30 0)), (1, .int (nI a)), (2, .int (nI b)), (3, .int (nI w.1)), (5, .int (nI n))] ⟨rfl, rfl, rfl, rfl, rfl, trivial⟩ (A93 ⟨c_40, c_56, c_73, hn.trans c_88⟩)
        · exact ri_ls [] trivial (B91 (fun q => by first | exact c_40 q.1 | exact c_56 q.2.1 | exact c_73 q.2.2.1 | exact c_88 (hn.symm.trans q.2.2.2) | exact c_88 q.2.2.2))
end MSA
