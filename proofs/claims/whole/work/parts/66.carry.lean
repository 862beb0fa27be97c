/-! Turns one behind the other; carry -/
def bth (o i : Nat) : Nat := (if 4 ≤ o then o + 8 - i else o + i) % 4 + 4 * ((o / 4 + i / 4) % 2)
theorem bth_lt (o i : Nat) : bth o i < 8 := by unfold bth; omega
theorem bth_1 : ∀ o : Fin 8, ∀ i : Fin 8, ¬ o.val < 4 → ((nI o.val - nI i.val) &&& nI 3) ||| ((nI o.val ^^^ nI i.val) &&& nI 4) = nI (bth o.val i.val) := by decide +kernel
theorem bth_2 : ∀ o : Fin 8, ∀ i : Fin 8, o.val < 4 → (nI (o.val + i.val) &&& nI 3) ||| ((nI o.val ^^^ nI i.val) &&& nI 4) = nI (bth o.val i.val) := by decide +kernel
theorem tX_lin {u : Nat} (hu : u < 8) (a b c d : Int64) : tX u (a + c) (b + d) = tX u a b + tX u c d ∧ tY u (a + c) (b + d) = tY u a b + tY u c d := by
  rcases (show u = 0 ∨ u = 1 ∨ u = 2 ∨ u = 3 ∨ u = 4 ∨ u = 5 ∨ u = 6 ∨ u = 7 by omega) with rfl | rfl | rfl | rfl | rfl | rfl | rfl | rfl <;> simp only [tX, tY, Int64.neg_add, Int64.sub_eq_add_neg] <;> exact ⟨trivial, trivial⟩
theorem tX_both {u t : Nat} (hu : u < 8) (ht : t < 8) (a b : Int64) : tX u (tX t a b) (tY t a b) = tX (bth u t) a b ∧ tY u (tX t a b) (tY t a b) = tY (bth u t) a b := by
  rcases (show u = 0 ∨ u = 1 ∨ u = 2 ∨ u = 3 ∨ u = 4 ∨ u = 5 ∨ u = 6 ∨ u = 7 by omega) with rfl | rfl | rfl | rfl | rfl | rfl | rfl | rfl <;> rcases (show t = 0 ∨ t = 1 ∨ t = 2 ∨ t = 3 ∨ t = 4 ∨ t = 5 ∨ t = 6 ∨ t = 7 by omega) with rfl | rfl | rfl | rfl | rfl | rfl | rfl | rfl <;> (constructor <;> first | rfl | exact Int64.neg_neg)
/-- where a place's copy lies -/
def pX (r : PlR) (i : Nat) : Int64 := r.x + nL i * r.dx
def pY (r : PlR) (j : Nat) : Int64 := r.y + nL j * r.dy
/-- turn and move of a row of places, one in the other -/
def cmpS (pl : Nat → PlR) (st : Nat → Nat × Nat × Nat) : Nat → Nat × Int64 × Int64
  | 0 => (0, 0, 0)
  | d + 1 => (bth (cmpS pl st d).1 (pl (st d).1).turn, (cmpS pl st d).2.1 + tX (cmpS pl st d).1 (pX (pl (st d).1) (st d).2.1) (pY (pl (st d).1) (st d).2.2), (cmpS pl st d).2.2 + tY (cmpS pl st d).1 (pX (pl (st d).1) (st d).2.1) (pY (pl (st d).1) (st d).2.2))
theorem cmpS_lt {pl : Nat → PlR} {st : Nat → Nat × Nat × Nat} : ∀ d, (cmpS pl st d).1 < 8
  | 0 => Nat.succ_pos 7
  | d + 1 => bth_lt _ _
theorem cmpS_s {pl : Nat → PlR} {st : Nat → Nat × Nat × Nat} {d : Nat} (ht : (pl (st d).1).turn < 8) (a b : Int64) :
    (cmpS pl st d).2.1 + tX (cmpS pl st d).1 (tX (pl (st d).1).turn a b + pX (pl (st d).1) (st d).2.1) (tY (pl (st d).1).turn a b + pY (pl (st d).1) (st d).2.2) = (cmpS pl st (d + 1)).2.1 + tX (cmpS pl st (d + 1)).1 a b ∧ (cmpS pl st d).2.2 + tY (cmpS pl st d).1 (tX (pl (st d).1).turn a b + pX (pl (st d).1) (st d).2.1) (tY (pl (st d).1).turn a b + pY (pl (st d).1) (st d).2.2) = (cmpS pl st (d + 1)).2.2 + tY (cmpS pl st (d + 1)).1 a b := by
  have h1 := tX_lin (cmpS_lt (pl := pl) (st := st) d) (tX (pl (st d).1).turn a b) (tY (pl (st d).1).turn a b) (pX (pl (st d).1) (st d).2.1) (pY (pl (st d).1) (st d).2.2)
  have h2 := tX_both (cmpS_lt (pl := pl) (st := st) d) ht a b
  rw [h1.1, h1.2, h2.1, h2.2]
  constructor
  · rw [Int64.add_comm (tX _ a b), ← Int64.add_assoc]
    rfl
  · rw [Int64.add_comm (tY _ a b), ← Int64.add_assoc]
    rfl
theorem nI_p1 (j : Nat) : nI (j + 1) - nI 1 = nI j := (nI_sub (by omega)).trans rfl
theorem nI_m1 (j : Nat) : nI j + Int32.ofInt (-1) = nI j - nI 1 := by
  rw [Int32.sub_eq_add_neg, show Int32.ofInt (-1) = -nI 1 by decide]
section CAR
variable {l : Launch} {D : gD} {s0 : State} {M : gH} {z : Nat} {ad : gA} {Q Qc : CS} {N : MS}
theorem k_both (h0 : g_0 l D s0) {o i : Nat} (ho : o < 8) (hi : i < 8) : Ct l D s0 y_ST_bothTurns (Cond.code y_ST_bothTurns b_ST_bothTurns 3 (some .int)) (rk 0 0 0) [.int (nI o), .int (nI i)] M (fR (some (.int (nI (bth o i)))) M) := by
  refine Ct.of h0 (by decide +kernel) rfl fun X hX h => ?_
  obtain ⟨p_, l', e_, R_, s_, m_, ar_, be_, me_, c_⟩ := X
  obtain rfl : l' = l := hX
  refine ri_iload_n h d_ST_bothTurns_0 rfl ?_
  refine ri_iconstN h 4 d_ST_bothTurns_1 rfl ?_
  first | refine ri_icmpN_lt h 11 d_ST_bothTurns_2 (by decide) (by omega) (by omega) (fun c_2 => ?_) (fun c_2 => ?_) | refine ri_icmp_lt h 11 d_ST_bothTurns_2 (by decide) (fun c_2 => ?_) (fun c_2 => ?_)
  · refine ri_iload_n h d_ST_bothTurns_11 rfl ?_
    refine ri_iload_n h d_ST_bothTurns_12 rfl ?_
    first | refine ri_iaddN h d_ST_bothTurns_13 ?_ | refine ri_iadd h d_ST_bothTurns_13 ?_
    refine ri_istore_n h d_ST_bothTurns_14 (Nat.le_of_ble_eq_true rfl) ?_
    refine ri_iload_n h d_ST_bothTurns_15 rfl ?_
    refine ri_iconstN h 3 d_ST_bothTurns_16 rfl ?_
    refine ri_iand h d_ST_bothTurns_17 ?_
    refine ri_iload_n h d_ST_bothTurns_18 rfl ?_
    refine ri_iload_n h d_ST_bothTurns_19 rfl ?_
    refine ri_ixor h d_ST_bothTurns_20 ?_
    refine ri_iconstN h 4 d_ST_bothTurns_21 rfl ?_
    refine ri_iand h d_ST_bothTurns_22 ?_
    refine ri_ior h d_ST_bothTurns_23 ?_
    refine ri_ireturn h d_ST_bothTurns_24 (Nat.le_of_ble_eq_true rfl) (Nat.le_of_ble_eq_true rfl) ?_
    exact ⟨congrArg (fun x => Sum.inl (some (Value.int x))) (bth_2 ⟨o, ho⟩ ⟨i, hi⟩ c_2), rfl⟩
  · refine ri_iload_n h d_ST_bothTurns_5 rfl ?_
    refine ri_iload_n h d_ST_bothTurns_6 rfl ?_
    refine ri_isub h d_ST_bothTurns_7 ?_
    refine ri_goto h 14 d_ST_bothTurns_8 (by decide) ?_
    refine ri_istore_n h d_ST_bothTurns_14 (Nat.le_of_ble_eq_true rfl) ?_
    refine ri_iload_n h d_ST_bothTurns_15 rfl ?_
    refine ri_iconstN h 3 d_ST_bothTurns_16 rfl ?_
    refine ri_iand h d_ST_bothTurns_17 ?_
    refine ri_iload_n h d_ST_bothTurns_18 rfl ?_
    refine ri_iload_n h d_ST_bothTurns_19 rfl ?_
    refine ri_ixor h d_ST_bothTurns_20 ?_
    refine ri_iconstN h 4 d_ST_bothTurns_21 rfl ?_
    refine ri_iand h d_ST_bothTurns_22 ?_
    refine ri_ior h d_ST_bothTurns_23 ?_
    refine ri_ireturn h d_ST_bothTurns_24 (Nat.le_of_ble_eq_true rfl) (Nat.le_of_ble_eq_true rfl) ?_
    exact ⟨congrArg (fun x => Sum.inl (some (Value.int x))) (bth_1 ⟨o, ho⟩ ⟨i, hi⟩ c_2), rfl⟩
/-- the model's stack -/
def StK (Q : CS) (N : MS) (st : Nat → Nat × Nat × Nat) (d : Nat) : Prop := ∀ j, j < d → N.i 30 j = nI (st j).1 ∧ N.i 31 j = nI (st j).2.1 ∧ N.i 32 j = nI (st j).2.2 ∧ (st j).1 < Q.nP ∧ (st j).2.1 < 20 ∧ (st j).2.2 < 20
theorem k_mcarry (h0 : g_0 l D s0) (hS : HS z ad Qc N M) (hm : MR0 Q N) (hW : WB Q) (hL : WL Q) {d : Nat} (hd : d ≤ 22) (hN : N.depth = nI d) {st : Nat → Nat × Nat × Nat} (hst : StK Q N st d) {x y : Int64} : Ct l D s0 y_Md_carry (Cond.code y_Md_carry b_Md_carry 10 none) (rk 1 0 0) [.ref (ad 30 0), .long x, .long y] M (fS none (HS z ad Qc ((N.set_px ((cmpS Q.pl st d).2.1 + tX (cmpS Q.pl st d).1 x y)).set_py ((cmpS Q.pl st d).2.2 + tY (cmpS Q.pl st d).1 x y)))) := by
  have hb3 := hW.2.2.1
  refine Ct.of h0 (by decide +kernel) rfl fun X hX h => ?_
  obtain ⟨p_, l', e_, R_, s_, m_, ar_, be_, me_, c_⟩ := X
  obtain rfl : l' = l := hX
  have LP : ∀ (j : Nat), j ≤ d → ∀ (v : Int32), v = nI j - nI 1 → ∀ (M : gH) (a b : Int64), HS z ad Qc ((N.set_px a).set_py b) M → (cmpS Q.pl st j).2.1 + tX (cmpS Q.pl st j).1 a b = (cmpS Q.pl st d).2.1 + tX (cmpS Q.pl st d).1 x y → (cmpS Q.pl st j).2.2 + tY (cmpS Q.pl st j).1 a b = (cmpS Q.pl st d).2.2 + tY (cmpS Q.pl st d).1 x y → G (gzz D s0 (p_, l', e_, R_, s_, m_, ar_, be_, me_, c_) (rk 1 0 0) (fS none (HS z ad Qc ((N.set_px ((cmpS Q.pl st d).2.1 + tX (cmpS Q.pl st d).1 x y)).set_py ((cmpS Q.pl st d).2.2 + tY (cmpS Q.pl st d).1 x y)))) 10) 18 [(0, .ref (ad 30 0)), (5, .int v)] [] M 0 0 := by
    intro j
    induction j with
    | zero =>
      intro hj v hv M a b hS h1 h2
      subst hv
      have e1 : a = (cmpS Q.pl st d).2.1 + tX (cmpS Q.pl st d).1 x y := (Int64.zero_add a).symm.trans h1
      have e2 : b = (cmpS Q.pl st d).2.2 + tY (cmpS Q.pl st d).1 x y := (Int64.zero_add b).symm.trans h2
      subst e1
      subst e2
      refine ri_iload h d_Md_carry_18 rfl ?_
      refine ri_if_lt h 175 d_Md_carry_20 (by decide) (fun c_20 => ?_) (fun c_20 => ?_)
      · refine ri_return h d_Md_carry_175 (Nat.le_of_ble_eq_true rfl) (Nat.le_of_ble_eq_true rfl) ?_
        exact ⟨rfl, hS⟩
      · exact absurd (by decide) c_20
    | succ j ih =>
      intro hj v hv M a b hS h1 h2
      rw [nI_p1] at hv
      subst hv
      obtain ⟨s1, s2, s3, s4, s5, s6⟩ := hst j (by omega)
      have hj22 : j < 22 := by omega
      have hsp : (st j).1 < 80 := by omega
      have ht8 := (hL.2.1 _ s4).2.2.1
      have hc := cmpS_s (pl := Q.pl) (st := st) (d := j) ht8 a b
      have h1 := hc.1.trans h1
      have h2 := hc.2.trans h2
      have e16 := hm.i16 s4
      refine ri_iload h d_Md_carry_18 rfl ?_
      refine ri_ifN_lt h 175 d_Md_carry_20 (by decide) (by omega) ?_
      have kEnd : ∀ (M : gH) (a' b' : Int64), HS z ad Qc ((N.set_px a').set_py b') M → a' = tX (Q.pl (st j).1).turn a b → b' = tY (Q.pl (st j).1).turn a b → G (gzz D s0 (p_, l', e_, R_, s_, m_, ar_, be_, me_, c_) (rk 1 0 0) (fS none (HS z ad Qc ((N.set_px ((cmpS Q.pl st d).2.1 + tX (cmpS Q.pl st d).1 x y)).set_py ((cmpS Q.pl st d).2.2 + tY (cmpS Q.pl st d).1 x y)))) 10) 103 [(0, .ref (ad 30 0)), (5, .int (nI j)), (6, .int (nI (st j).1))] [] M 0 0 := by
        intro M a' b' hS e1 e2
        subst e1
        subst e2
        refine ri_aload_n h d_Md_carry_103 rfl ?_
        refine ri_dup h d_Md_carry_104 rfl ?_
        refine ri_get h d_Md_carry_105 fl_Md_158 (by first | assumption | exact hS.mo | exact gup_s) (by rfl) ?_
        refine ri_aload_n h d_Md_carry_108 rfl ?_
        refine ri_get h d_Md_carry_109 fl_Md_42 (by first | assumption | exact hS.mo | exact gup_s) (by rfl) ?_
        refine ri_iload h d_Md_carry_112 rfl ?_
        refine ri_laldE h _ d_Md_carry_114 (by first | assumption | exact hS.a14) (by first | rfl | assumption) (by first | assumption | omega) (by first | decide | omega) (by first | assumption | exact hm.i14 (by first | assumption | omega) | rfl) ?_
        refine ri_aload_n h d_Md_carry_115 rfl ?_
        refine ri_get h d_Md_carry_116 fl_Md_88 (by first | assumption | exact hS.mo | exact gup_s) (by rfl) ?_
        refine ri_iload h d_Md_carry_119 rfl ?_
        refine ri_ialdE h _ d_Md_carry_121 (by first | assumption | exact hS.a31) (by first | rfl | assumption) (by first | assumption | omega) (by first | decide | omega) (by first | assumption | assumption | rfl) ?_
        first | refine ri_i2lN h d_Md_carry_122 (by omega) ?_ | refine ri_i2l h d_Md_carry_122 ?_
        refine ri_aload_n h d_Md_carry_123 rfl ?_
        refine ri_get h d_Md_carry_124 fl_Md_57 (by first | assumption | exact hS.mo | exact gup_s) (by rfl) ?_
        refine ri_iload h d_Md_carry_127 rfl ?_
        refine ri_laldE h _ d_Md_carry_129 (by first | assumption | exact hS.a19) (by first | rfl | assumption) (by first | assumption | omega) (by first | decide | omega) (by first | assumption | exact hm.i19 (by first | assumption | omega) | rfl) ?_
        first | refine ri_lmulN h d_Md_carry_130 ?_ | refine ri_lmul h d_Md_carry_130 ?_
        first | refine ri_laddN h d_Md_carry_131 ?_ | refine ri_ladd h d_Md_carry_131 ?_
        first | refine ri_laddN h d_Md_carry_132 ?_ | refine ri_ladd h d_Md_carry_132 ?_
        refine ri_pm_px h d_Md_carry_133 fl_Md_158 hS (fun M hS => ?_)
        refine ri_aload_n h d_Md_carry_136 rfl ?_
        refine ri_dup h d_Md_carry_137 rfl ?_
        refine ri_get h d_Md_carry_138 fl_Md_162 (by first | assumption | exact hS.mo | exact gup_s) (by rfl) ?_
        refine ri_aload_n h d_Md_carry_141 rfl ?_
        refine ri_get h d_Md_carry_142 fl_Md_45 (by first | assumption | exact hS.mo | exact gup_s) (by rfl) ?_
        refine ri_iload h d_Md_carry_145 rfl ?_
        refine ri_laldE h _ d_Md_carry_147 (by first | assumption | exact hS.a15) (by first | rfl | assumption) (by first | assumption | omega) (by first | decide | omega) (by first | assumption | exact hm.i15 (by first | assumption | omega) | rfl) ?_
        refine ri_aload_n h d_Md_carry_148 rfl ?_
        refine ri_get h d_Md_carry_149 fl_Md_91 (by first | assumption | exact hS.mo | exact gup_s) (by rfl) ?_
        refine ri_iload h d_Md_carry_152 rfl ?_
        refine ri_ialdE h _ d_Md_carry_154 (by first | assumption | exact hS.a32) (by first | rfl | assumption) (by first | assumption | omega) (by first | decide | omega) (by first | assumption | assumption | rfl) ?_
        first | refine ri_i2lN h d_Md_carry_155 (by omega) ?_ | refine ri_i2l h d_Md_carry_155 ?_
        refine ri_aload_n h d_Md_carry_156 rfl ?_
        refine ri_get h d_Md_carry_157 fl_Md_60 (by first | assumption | exact hS.mo | exact gup_s) (by rfl) ?_
        refine ri_iload h d_Md_carry_160 rfl ?_
        refine ri_laldE h _ d_Md_carry_162 (by first | assumption | exact hS.a20) (by first | rfl | assumption) (by first | assumption | omega) (by first | decide | omega) (by first | assumption | exact hm.i20 (by first | assumption | omega) | rfl) ?_
        first | refine ri_lmulN h d_Md_carry_163 ?_ | refine ri_lmul h d_Md_carry_163 ?_
        first | refine ri_laddN h d_Md_carry_164 ?_ | refine ri_ladd h d_Md_carry_164 ?_
        first | refine ri_laddN h d_Md_carry_165 ?_ | refine ri_ladd h d_Md_carry_165 ?_
        refine ri_pm_py h d_Md_carry_166 fl_Md_162 hS (fun M hS => ?_)
        refine ri_iinc h _ d_Md_carry_169 rfl rfl (Nat.le_of_ble_eq_true rfl) ?_
        refine ri_goto h 18 d_Md_carry_172 (by decide) ?_
        exact ri_ls [(0, .ref (ad 30 0)), (5, .int (nI j + Int32.ofInt (-1)))] ⟨rfl, rfl, trivial⟩ (ih (by omega) _ (nI_m1 j) _ _ _ hS h1 h2)
      have e160 : ∀ t, (Q.pl (st j).1).turn = t → N.i 16 (st j).1 = nI t := fun t ht => by rw [e16, ht]
      rcases (show (Q.pl (st j).1).turn = 0 ∨ (Q.pl (st j).1).turn = 1 ∨ (Q.pl (st j).1).turn = 2 ∨ (Q.pl (st j).1).turn = 3 ∨ (Q.pl (st j).1).turn = 4 ∨ (Q.pl (st j).1).turn = 5 ∨ (Q.pl (st j).1).turn = 6 ∨ (Q.pl (st j).1).turn = 7 by omega) with hT | hT | hT | hT | hT | hT | hT | hT
      · have e16 := e160 _ hT
        refine ri_aload_n h d_Md_carry_23 rfl ?_
        refine ri_get h d_Md_carry_24 fl_Md_85 (by first | assumption | exact hS.mo | exact gup_s) (by rfl) ?_
        refine ri_iload h d_Md_carry_27 rfl ?_
        refine ri_ialdE h _ d_Md_carry_29 (by first | assumption | exact hS.a30) (by first | rfl | assumption) (by first | assumption | omega) (by first | decide | omega) (by first | assumption | assumption | rfl) ?_
        refine ri_istore h d_Md_carry_30 (Nat.le_of_ble_eq_true rfl) ?_
        refine ri_aload_n h d_Md_carry_32 rfl ?_
        refine ri_aload_n h d_Md_carry_33 rfl ?_
        refine ri_get h d_Md_carry_34 fl_Md_48 (by first | assumption | exact hS.mo | exact gup_s) (by rfl) ?_
        refine ri_iload h d_Md_carry_37 rfl ?_
        refine ri_ialdE h _ d_Md_carry_39 (by first | assumption | exact hS.a16) (by first | rfl | assumption) (by first | assumption | omega) (by first | decide | omega) (by first | assumption | exact hm.i16 (by first | assumption | omega) | rfl) ?_
        refine ri_iconstN h 3 d_Md_carry_40 rfl ?_
        first | refine ri_icmpN_le h 52 d_Md_carry_41 (by decide) (by omega) (by omega) (fun c_41 => ?_) (fun c_41 => ?_) | refine ri_icmp_le h 52 d_Md_carry_41 (by decide) (fun c_41 => ?_) (fun c_41 => ?_)
        · refine ri_aload_n h d_Md_carry_52 rfl ?_
          refine ri_get h d_Md_carry_53 fl_Md_162 (by first | assumption | exact hS.mo | exact gup_s) (by rfl) ?_
          refine ri_pm_py h d_Md_carry_56 fl_Md_162 hS (fun M hS => ?_)
          refine ri_iconstN h 0 d_Md_carry_59 rfl ?_
          refine ri_istore h d_Md_carry_60 (Nat.le_of_ble_eq_true rfl) ?_
          refine ri_iload h d_Md_carry_62 rfl ?_
          refine ri_aload_n h d_Md_carry_64 rfl ?_
          refine ri_get h d_Md_carry_65 fl_Md_48 (by first | assumption | exact hS.mo | exact gup_s) (by rfl) ?_
          refine ri_iload h d_Md_carry_68 rfl ?_
          refine ri_ialdE h _ d_Md_carry_70 (by first | assumption | exact hS.a16) (by first | rfl | assumption) (by first | assumption | omega) (by first | decide | omega) (by first | assumption | exact hm.i16 (by first | assumption | omega) | rfl) ?_
          refine ri_iconstN h 4 d_Md_carry_71 rfl ?_
          refine ri_irem h d_Md_carry_72 (by decide) ?_
          first | refine ri_icmpN_ge h 103 d_Md_carry_73 (by decide) (by omega) (by omega) (fun c_73 => ?_) (fun c_73 => ?_) | refine ri_icmp_ge h 103 d_Md_carry_73 (by decide) (fun c_73 => ?_) (fun c_73 => ?_)
          · exact ri_ls [(0, .ref (ad 30 0)), (5, .int (nI j)), (6, .int (nI (st j).1))] ⟨rfl, rfl, rfl, trivial⟩ (kEnd _ _ _ hS (by rw [hT]; first | rfl | exact Int64.neg_neg | simp [tX]) (by rw [hT]; first | rfl | exact Int64.neg_neg | simp [tY]))
          · exact absurd (by decide +kernel) c_73
        · exact absurd (by decide +kernel) c_41
      · have e16 := e160 _ hT
        refine ri_aload_n h d_Md_carry_23 rfl ?_
        refine ri_get h d_Md_carry_24 fl_Md_85 (by first | assumption | exact hS.mo | exact gup_s) (by rfl) ?_
        refine ri_iload h d_Md_carry_27 rfl ?_
        refine ri_ialdE h _ d_Md_carry_29 (by first | assumption | exact hS.a30) (by first | rfl | assumption) (by first | assumption | omega) (by first | decide | omega) (by first | assumption | assumption | rfl) ?_
        refine ri_istore h d_Md_carry_30 (Nat.le_of_ble_eq_true rfl) ?_
        refine ri_aload_n h d_Md_carry_32 rfl ?_
        refine ri_aload_n h d_Md_carry_33 rfl ?_
        refine ri_get h d_Md_carry_34 fl_Md_48 (by first | assumption | exact hS.mo | exact gup_s) (by rfl) ?_
        refine ri_iload h d_Md_carry_37 rfl ?_
        refine ri_ialdE h _ d_Md_carry_39 (by first | assumption | exact hS.a16) (by first | rfl | assumption) (by first | assumption | omega) (by first | decide | omega) (by first | assumption | exact hm.i16 (by first | assumption | omega) | rfl) ?_
        refine ri_iconstN h 3 d_Md_carry_40 rfl ?_
        first | refine ri_icmpN_le h 52 d_Md_carry_41 (by decide) (by omega) (by omega) (fun c_41 => ?_) (fun c_41 => ?_) | refine ri_icmp_le h 52 d_Md_carry_41 (by decide) (fun c_41 => ?_) (fun c_41 => ?_)
        · refine ri_aload_n h d_Md_carry_52 rfl ?_
          refine ri_get h d_Md_carry_53 fl_Md_162 (by first | assumption | exact hS.mo | exact gup_s) (by rfl) ?_
          refine ri_pm_py h d_Md_carry_56 fl_Md_162 hS (fun M hS => ?_)
          refine ri_iconstN h 0 d_Md_carry_59 rfl ?_
          refine ri_istore h d_Md_carry_60 (Nat.le_of_ble_eq_true rfl) ?_
          refine ri_iload h d_Md_carry_62 rfl ?_
          refine ri_aload_n h d_Md_carry_64 rfl ?_
          refine ri_get h d_Md_carry_65 fl_Md_48 (by first | assumption | exact hS.mo | exact gup_s) (by rfl) ?_
          refine ri_iload h d_Md_carry_68 rfl ?_
          refine ri_ialdE h _ d_Md_carry_70 (by first | assumption | exact hS.a16) (by first | rfl | assumption) (by first | assumption | omega) (by first | decide | omega) (by first | assumption | exact hm.i16 (by first | assumption | omega) | rfl) ?_
          refine ri_iconstN h 4 d_Md_carry_71 rfl ?_
          refine ri_irem h d_Md_carry_72 (by decide) ?_
          first | refine ri_icmpN_ge h 103 d_Md_carry_73 (by decide) (by omega) (by omega) (fun c_73 => ?_) (fun c_73 => ?_) | refine ri_icmp_ge h 103 d_Md_carry_73 (by decide) (fun c_73 => ?_) (fun c_73 => ?_)
          · exact absurd c_73 (by decide +kernel)
          · refine ri_aload_n h d_Md_carry_76 rfl ?_
            refine ri_get h d_Md_carry_77 fl_Md_158 (by first | assumption | exact hS.mo | exact gup_s) (by rfl) ?_
            refine ri_lstore h d_Md_carry_80 (Nat.le_of_ble_eq_true rfl) ?_
            refine ri_aload_n h d_Md_carry_82 rfl ?_
            refine ri_aload_n h d_Md_carry_83 rfl ?_
            refine ri_get h d_Md_carry_84 fl_Md_162 (by first | assumption | exact hS.mo | exact gup_s) (by rfl) ?_
            refine ri_lneg h d_Md_carry_87 ?_
            refine ri_pm_px h d_Md_carry_88 fl_Md_158 hS (fun M hS => ?_)
            refine ri_aload_n h d_Md_carry_91 rfl ?_
            refine ri_lload h d_Md_carry_92 rfl ?_
            refine ri_pm_py h d_Md_carry_94 fl_Md_162 hS (fun M hS => ?_)
            first | refine ri_iincN h d_Md_carry_97 rfl (Nat.le_of_ble_eq_true rfl) ?_ | refine ri_iinc h _ d_Md_carry_97 rfl rfl (Nat.le_of_ble_eq_true rfl) ?_
            refine ri_goto h 62 d_Md_carry_100 (by decide) ?_
            refine ri_iload h d_Md_carry_62 rfl ?_
            refine ri_aload_n h d_Md_carry_64 rfl ?_
            refine ri_get h d_Md_carry_65 fl_Md_48 (by first | assumption | exact hS.mo | exact gup_s) (by rfl) ?_
            refine ri_iload h d_Md_carry_68 rfl ?_
            refine ri_ialdE h _ d_Md_carry_70 (by first | assumption | exact hS.a16) (by first | rfl | assumption) (by first | assumption | omega) (by first | decide | omega) (by first | assumption | exact hm.i16 (by first | assumption | omega) | rfl) ?_
            refine ri_iconstN h 4 d_Md_carry_71 rfl ?_
            refine ri_irem h d_Md_carry_72 (by decide) ?_
            first | refine ri_icmpN_ge h 103 d_Md_carry_73 (by decide) (by omega) (by omega) (fun c_73 => ?_) (fun c_73 => ?_) | refine ri_icmp_ge h 103 d_Md_carry_73 (by decide) (fun c_73 => ?_) (fun c_73 => ?_)
            · exact ri_ls [(0, .ref (ad 30 0)), (5, .int (nI j)), (6, .int (nI (st j).1))] ⟨rfl, rfl, rfl, trivial⟩ (kEnd _ _ _ hS (by rw [hT]; first | rfl | exact Int64.neg_neg | simp [tX]) (by rw [hT]; first | rfl | exact Int64.neg_neg | simp [tY]))
            · exact absurd (by decide +kernel) c_73
        · exact absurd (by decide +kernel) c_41
      · have e16 := e160 _ hT
        refine ri_aload_n h d_Md_carry_23 rfl ?_
        refine ri_get h d_Md_carry_24 fl_Md_85 (by first | assumption | exact hS.mo | exact gup_s) (by rfl) ?_
        refine ri_iload h d_Md_carry_27 rfl ?_
        refine ri_ialdE h _ d_Md_carry_29 (by first | assumption | exact hS.a30) (by first | rfl | assumption) (by first | assumption | omega) (by first | decide | omega) (by first | assumption | assumption | rfl) ?_
        refine ri_istore h d_Md_carry_30 (Nat.le_of_ble_eq_true rfl) ?_
        refine ri_aload_n h d_Md_carry_32 rfl ?_
        refine ri_aload_n h d_Md_carry_33 rfl ?_
        refine ri_get h d_Md_carry_34 fl_Md_48 (by first | assumption | exact hS.mo | exact gup_s) (by rfl) ?_
        refine ri_iload h d_Md_carry_37 rfl ?_
        refine ri_ialdE h _ d_Md_carry_39 (by first | assumption | exact hS.a16) (by first | rfl | assumption) (by first | assumption | omega) (by first | decide | omega) (by first | assumption | exact hm.i16 (by first | assumption | omega) | rfl) ?_
        refine ri_iconstN h 3 d_Md_carry_40 rfl ?_
        first | refine ri_icmpN_le h 52 d_Md_carry_41 (by decide) (by omega) (by omega) (fun c_41 => ?_) (fun c_41 => ?_) | refine ri_icmp_le h 52 d_Md_carry_41 (by decide) (fun c_41 => ?_) (fun c_41 => ?_)
        · refine ri_aload_n h d_Md_carry_52 rfl ?_
          refine ri_get h d_Md_carry_53 fl_Md_162 (by first | assumption | exact hS.mo | exact gup_s) (by rfl) ?_
          refine ri_pm_py h d_Md_carry_56 fl_Md_162 hS (fun M hS => ?_)
          refine ri_iconstN h 0 d_Md_carry_59 rfl ?_
          refine ri_istore h d_Md_carry_60 (Nat.le_of_ble_eq_true rfl) ?_
          refine ri_iload h d_Md_carry_62 rfl ?_
          refine ri_aload_n h d_Md_carry_64 rfl ?_
          refine ri_get h d_Md_carry_65 fl_Md_48 (by first | assumption | exact hS.mo | exact gup_s) (by rfl) ?_
          refine ri_iload h d_Md_carry_68 rfl ?_
          refine ri_ialdE h _ d_Md_carry_70 (by first | assumption | exact hS.a16) (by first | rfl | assumption) (by first | assumption | omega) (by first | decide | omega) (by first | assumption | exact hm.i16 (by first | assumption | omega) | rfl) ?_
          refine ri_iconstN h 4 d_Md_carry_71 rfl ?_
          refine ri_irem h d_Md_carry_72 (by decide) ?_
          first | refine ri_icmpN_ge h 103 d_Md_carry_73 (by decide) (by omega) (by omega) (fun c_73 => ?_) (fun c_73 => ?_) | refine ri_icmp_ge h 103 d_Md_carry_73 (by decide) (fun c_73 => ?_) (fun c_73 => ?_)
          · exact absurd c_73 (by decide +kernel)
          · refine ri_aload_n h d_Md_carry_76 rfl ?_
            refine ri_get h d_Md_carry_77 fl_Md_158 (by first | assumption | exact hS.mo | exact gup_s) (by rfl) ?_
            refine ri_lstore h d_Md_carry_80 (Nat.le_of_ble_eq_true rfl) ?_
            refine ri_aload_n h d_Md_carry_82 rfl ?_
            refine ri_aload_n h d_Md_carry_83 rfl ?_
            refine ri_get h d_Md_carry_84 fl_Md_162 (by first | assumption | exact hS.mo | exact gup_s) (by rfl) ?_
            refine ri_lneg h d_Md_carry_87 ?_
            refine ri_pm_px h d_Md_carry_88 fl_Md_158 hS (fun M hS => ?_)
            refine ri_aload_n h d_Md_carry_91 rfl ?_
            refine ri_lload h d_Md_carry_92 rfl ?_
            refine ri_pm_py h d_Md_carry_94 fl_Md_162 hS (fun M hS => ?_)
            first | refine ri_iincN h d_Md_carry_97 rfl (Nat.le_of_ble_eq_true rfl) ?_ | refine ri_iinc h _ d_Md_carry_97 rfl rfl (Nat.le_of_ble_eq_true rfl) ?_
            refine ri_goto h 62 d_Md_carry_100 (by decide) ?_
            refine ri_iload h d_Md_carry_62 rfl ?_
            refine ri_aload_n h d_Md_carry_64 rfl ?_
            refine ri_get h d_Md_carry_65 fl_Md_48 (by first | assumption | exact hS.mo | exact gup_s) (by rfl) ?_
            refine ri_iload h d_Md_carry_68 rfl ?_
            refine ri_ialdE h _ d_Md_carry_70 (by first | assumption | exact hS.a16) (by first | rfl | assumption) (by first | assumption | omega) (by first | decide | omega) (by first | assumption | exact hm.i16 (by first | assumption | omega) | rfl) ?_
            refine ri_iconstN h 4 d_Md_carry_71 rfl ?_
            refine ri_irem h d_Md_carry_72 (by decide) ?_
            first | refine ri_icmpN_ge h 103 d_Md_carry_73 (by decide) (by omega) (by omega) (fun c_73 => ?_) (fun c_73 => ?_) | refine ri_icmp_ge h 103 d_Md_carry_73 (by decide) (fun c_73 => ?_) (fun c_73 => ?_)
            · exact absurd c_73 (by decide +kernel)
            · refine ri_aload_n h d_Md_carry_76 rfl ?_
              refine ri_get h d_Md_carry_77 fl_Md_158 (by first | assumption | exact hS.mo | exact gup_s) (by rfl) ?_
              refine ri_lstore h d_Md_carry_80 (Nat.le_of_ble_eq_true rfl) ?_
              refine ri_aload_n h d_Md_carry_82 rfl ?_
              refine ri_aload_n h d_Md_carry_83 rfl ?_
              refine ri_get h d_Md_carry_84 fl_Md_162 (by first | assumption | exact hS.mo | exact gup_s) (by rfl) ?_
              refine ri_lneg h d_Md_carry_87 ?_
              refine ri_pm_px h d_Md_carry_88 fl_Md_158 hS (fun M hS => ?_)
              refine ri_aload_n h d_Md_carry_91 rfl ?_
              refine ri_lload h d_Md_carry_92 rfl ?_
              refine ri_pm_py h d_Md_carry_94 fl_Md_162 hS (fun M hS => ?_)
              first | refine ri_iincN h d_Md_carry_97 rfl (Nat.le_of_ble_eq_true rfl) ?_ | refine ri_iinc h _ d_Md_carry_97 rfl rfl (Nat.le_of_ble_eq_true rfl) ?_
              refine ri_goto h 62 d_Md_carry_100 (by decide) ?_
              refine ri_iload h d_Md_carry_62 rfl ?_
              refine ri_aload_n h d_Md_carry_64 rfl ?_
              refine ri_get h d_Md_carry_65 fl_Md_48 (by first | assumption | exact hS.mo | exact gup_s) (by rfl) ?_
              refine ri_iload h d_Md_carry_68 rfl ?_
              refine ri_ialdE h _ d_Md_carry_70 (by first | assumption | exact hS.a16) (by first | rfl | assumption) (by first | assumption | omega) (by first | decide | omega) (by first | assumption | exact hm.i16 (by first | assumption | omega) | rfl) ?_
              refine ri_iconstN h 4 d_Md_carry_71 rfl ?_
              refine ri_irem h d_Md_carry_72 (by decide) ?_
              first | refine ri_icmpN_ge h 103 d_Md_carry_73 (by decide) (by omega) (by omega) (fun c_73 => ?_) (fun c_73 => ?_) | refine ri_icmp_ge h 103 d_Md_carry_73 (by decide) (fun c_73 => ?_) (fun c_73 => ?_)
              · exact ri_ls [(0, .ref (ad 30 0)), (5, .int (nI j)), (6, .int (nI (st j).1))] ⟨rfl, rfl, rfl, trivial⟩ (kEnd _ _ _ hS (by rw [hT]; first | rfl | exact Int64.neg_neg | simp [tX]) (by rw [hT]; first | rfl | exact Int64.neg_neg | simp [tY]))
              · exact absurd (by decide +kernel) c_73
        · exact absurd (by decide +kernel) c_41
      · have e16 := e160 _ hT
        refine ri_aload_n h d_Md_carry_23 rfl ?_
        refine ri_get h d_Md_carry_24 fl_Md_85 (by first | assumption | exact hS.mo | exact gup_s) (by rfl) ?_
        refine ri_iload h d_Md_carry_27 rfl ?_
        refine ri_ialdE h _ d_Md_carry_29 (by first | assumption | exact hS.a30) (by first | rfl | assumption) (by first | assumption | omega) (by first | decide | omega) (by first | assumption | assumption | rfl) ?_
        refine ri_istore h d_Md_carry_30 (Nat.le_of_ble_eq_true rfl) ?_
        refine ri_aload_n h d_Md_carry_32 rfl ?_
        refine ri_aload_n h d_Md_carry_33 rfl ?_
        refine ri_get h d_Md_carry_34 fl_Md_48 (by first | assumption | exact hS.mo | exact gup_s) (by rfl) ?_
        refine ri_iload h d_Md_carry_37 rfl ?_
        refine ri_ialdE h _ d_Md_carry_39 (by first | assumption | exact hS.a16) (by first | rfl | assumption) (by first | assumption | omega) (by first | decide | omega) (by first | assumption | exact hm.i16 (by first | assumption | omega) | rfl) ?_
        refine ri_iconstN h 3 d_Md_carry_40 rfl ?_
        first | refine ri_icmpN_le h 52 d_Md_carry_41 (by decide) (by omega) (by omega) (fun c_41 => ?_) (fun c_41 => ?_) | refine ri_icmp_le h 52 d_Md_carry_41 (by decide) (fun c_41 => ?_) (fun c_41 => ?_)
        · refine ri_aload_n h d_Md_carry_52 rfl ?_
          refine ri_get h d_Md_carry_53 fl_Md_162 (by first | assumption | exact hS.mo | exact gup_s) (by rfl) ?_
          refine ri_pm_py h d_Md_carry_56 fl_Md_162 hS (fun M hS => ?_)
          refine ri_iconstN h 0 d_Md_carry_59 rfl ?_
          refine ri_istore h d_Md_carry_60 (Nat.le_of_ble_eq_true rfl) ?_
          refine ri_iload h d_Md_carry_62 rfl ?_
          refine ri_aload_n h d_Md_carry_64 rfl ?_
          refine ri_get h d_Md_carry_65 fl_Md_48 (by first | assumption | exact hS.mo | exact gup_s) (by rfl) ?_
          refine ri_iload h d_Md_carry_68 rfl ?_
          refine ri_ialdE h _ d_Md_carry_70 (by first | assumption | exact hS.a16) (by first | rfl | assumption) (by first | assumption | omega) (by first | decide | omega) (by first | assumption | exact hm.i16 (by first | assumption | omega) | rfl) ?_
          refine ri_iconstN h 4 d_Md_carry_71 rfl ?_
          refine ri_irem h d_Md_carry_72 (by decide) ?_
          first | refine ri_icmpN_ge h 103 d_Md_carry_73 (by decide) (by omega) (by omega) (fun c_73 => ?_) (fun c_73 => ?_) | refine ri_icmp_ge h 103 d_Md_carry_73 (by decide) (fun c_73 => ?_) (fun c_73 => ?_)
          · exact absurd c_73 (by decide +kernel)
          · refine ri_aload_n h d_Md_carry_76 rfl ?_
            refine ri_get h d_Md_carry_77 fl_Md_158 (by first | assumption | exact hS.mo | exact gup_s) (by rfl) ?_
            refine ri_lstore h d_Md_carry_80 (Nat.le_of_ble_eq_true rfl) ?_
            refine ri_aload_n h d_Md_carry_82 rfl ?_
            refine ri_aload_n h d_Md_carry_83 rfl ?_
            refine ri_get h d_Md_carry_84 fl_Md_162 (by first | assumption | exact hS.mo | exact gup_s) (by rfl) ?_
            refine ri_lneg h d_Md_carry_87 ?_
            refine ri_pm_px h d_Md_carry_88 fl_Md_158 hS (fun M hS => ?_)
            refine ri_aload_n h d_Md_carry_91 rfl ?_
            refine ri_lload h d_Md_carry_92 rfl ?_
            refine ri_pm_py h d_Md_carry_94 fl_Md_162 hS (fun M hS => ?_)
            first | refine ri_iincN h d_Md_carry_97 rfl (Nat.le_of_ble_eq_true rfl) ?_ | refine ri_iinc h _ d_Md_carry_97 rfl rfl (Nat.le_of_ble_eq_true rfl) ?_
            refine ri_goto h 62 d_Md_carry_100 (by decide) ?_
            refine ri_iload h d_Md_carry_62 rfl ?_
            refine ri_aload_n h d_Md_carry_64 rfl ?_
            refine ri_get h d_Md_carry_65 fl_Md_48 (by first | assumption | exact hS.mo | exact gup_s) (by rfl) ?_
            refine ri_iload h d_Md_carry_68 rfl ?_
            refine ri_ialdE h _ d_Md_carry_70 (by first | assumption | exact hS.a16) (by first | rfl | assumption) (by first | assumption | omega) (by first | decide | omega) (by first | assumption | exact hm.i16 (by first | assumption | omega) | rfl) ?_
            refine ri_iconstN h 4 d_Md_carry_71 rfl ?_
            refine ri_irem h d_Md_carry_72 (by decide) ?_
            first | refine ri_icmpN_ge h 103 d_Md_carry_73 (by decide) (by omega) (by omega) (fun c_73 => ?_) (fun c_73 => ?_) | refine ri_icmp_ge h 103 d_Md_carry_73 (by decide) (fun c_73 => ?_) (fun c_73 => ?_)
            · exact absurd c_73 (by decide +kernel)
            · refine ri_aload_n h d_Md_carry_76 rfl ?_
              refine ri_get h d_Md_carry_77 fl_Md_158 (by first | assumption | exact hS.mo | exact gup_s) (by rfl) ?_
              refine ri_lstore h d_Md_carry_80 (Nat.le_of_ble_eq_true rfl) ?_
              refine ri_aload_n h d_Md_carry_82 rfl ?_
              refine ri_aload_n h d_Md_carry_83 rfl ?_
              refine ri_get h d_Md_carry_84 fl_Md_162 (by first | assumption | exact hS.mo | exact gup_s) (by rfl) ?_
              refine ri_lneg h d_Md_carry_87 ?_
              refine ri_pm_px h d_Md_carry_88 fl_Md_158 hS (fun M hS => ?_)
              refine ri_aload_n h d_Md_carry_91 rfl ?_
              refine ri_lload h d_Md_carry_92 rfl ?_
              refine ri_pm_py h d_Md_carry_94 fl_Md_162 hS (fun M hS => ?_)
              first | refine ri_iincN h d_Md_carry_97 rfl (Nat.le_of_ble_eq_true rfl) ?_ | refine ri_iinc h _ d_Md_carry_97 rfl rfl (Nat.le_of_ble_eq_true rfl) ?_
              refine ri_goto h 62 d_Md_carry_100 (by decide) ?_
              refine ri_iload h d_Md_carry_62 rfl ?_
              refine ri_aload_n h d_Md_carry_64 rfl ?_
              refine ri_get h d_Md_carry_65 fl_Md_48 (by first | assumption | exact hS.mo | exact gup_s) (by rfl) ?_
              refine ri_iload h d_Md_carry_68 rfl ?_
              refine ri_ialdE h _ d_Md_carry_70 (by first | assumption | exact hS.a16) (by first | rfl | assumption) (by first | assumption | omega) (by first | decide | omega) (by first | assumption | exact hm.i16 (by first | assumption | omega) | rfl) ?_
              refine ri_iconstN h 4 d_Md_carry_71 rfl ?_
              refine ri_irem h d_Md_carry_72 (by decide) ?_
              first | refine ri_icmpN_ge h 103 d_Md_carry_73 (by decide) (by omega) (by omega) (fun c_73 => ?_) (fun c_73 => ?_) | refine ri_icmp_ge h 103 d_Md_carry_73 (by decide) (fun c_73 => ?_) (fun c_73 => ?_)
              · exact absurd c_73 (by decide +kernel)
              · refine ri_aload_n h d_Md_carry_76 rfl ?_
                refine ri_get h d_Md_carry_77 fl_Md_158 (by first | assumption | exact hS.mo | exact gup_s) (by rfl) ?_
                refine ri_lstore h d_Md_carry_80 (Nat.le_of_ble_eq_true rfl) ?_
                refine ri_aload_n h d_Md_carry_82 rfl ?_
                refine ri_aload_n h d_Md_carry_83 rfl ?_
                refine ri_get h d_Md_carry_84 fl_Md_162 (by first | assumption | exact hS.mo | exact gup_s) (by rfl) ?_
                refine ri_lneg h d_Md_carry_87 ?_
                refine ri_pm_px h d_Md_carry_88 fl_Md_158 hS (fun M hS => ?_)
                refine ri_aload_n h d_Md_carry_91 rfl ?_
                refine ri_lload h d_Md_carry_92 rfl ?_
                refine ri_pm_py h d_Md_carry_94 fl_Md_162 hS (fun M hS => ?_)
                first | refine ri_iincN h d_Md_carry_97 rfl (Nat.le_of_ble_eq_true rfl) ?_ | refine ri_iinc h _ d_Md_carry_97 rfl rfl (Nat.le_of_ble_eq_true rfl) ?_
                refine ri_goto h 62 d_Md_carry_100 (by decide) ?_
                refine ri_iload h d_Md_carry_62 rfl ?_
                refine ri_aload_n h d_Md_carry_64 rfl ?_
                refine ri_get h d_Md_carry_65 fl_Md_48 (by first | assumption | exact hS.mo | exact gup_s) (by rfl) ?_
                refine ri_iload h d_Md_carry_68 rfl ?_
                refine ri_ialdE h _ d_Md_carry_70 (by first | assumption | exact hS.a16) (by first | rfl | assumption) (by first | assumption | omega) (by first | decide | omega) (by first | assumption | exact hm.i16 (by first | assumption | omega) | rfl) ?_
                refine ri_iconstN h 4 d_Md_carry_71 rfl ?_
                refine ri_irem h d_Md_carry_72 (by decide) ?_
                first | refine ri_icmpN_ge h 103 d_Md_carry_73 (by decide) (by omega) (by omega) (fun c_73 => ?_) (fun c_73 => ?_) | refine ri_icmp_ge h 103 d_Md_carry_73 (by decide) (fun c_73 => ?_) (fun c_73 => ?_)
                · exact ri_ls [(0, .ref (ad 30 0)), (5, .int (nI j)), (6, .int (nI (st j).1))] ⟨rfl, rfl, rfl, trivial⟩ (kEnd _ _ _ hS (by rw [hT]; first | rfl | exact Int64.neg_neg | simp [tX]) (by rw [hT]; first | rfl | exact Int64.neg_neg | simp [tY]))
                · exact absurd (by decide +kernel) c_73
        · exact absurd (by decide +kernel) c_41
      · have e16 := e160 _ hT
        refine ri_aload_n h d_Md_carry_23 rfl ?_
        refine ri_get h d_Md_carry_24 fl_Md_85 (by first | assumption | exact hS.mo | exact gup_s) (by rfl) ?_
        refine ri_iload h d_Md_carry_27 rfl ?_
        refine ri_ialdE h _ d_Md_carry_29 (by first | assumption | exact hS.a30) (by first | rfl | assumption) (by first | assumption | omega) (by first | decide | omega) (by first | assumption | assumption | rfl) ?_
        refine ri_istore h d_Md_carry_30 (Nat.le_of_ble_eq_true rfl) ?_
        refine ri_aload_n h d_Md_carry_32 rfl ?_
        refine ri_aload_n h d_Md_carry_33 rfl ?_
        refine ri_get h d_Md_carry_34 fl_Md_48 (by first | assumption | exact hS.mo | exact gup_s) (by rfl) ?_
        refine ri_iload h d_Md_carry_37 rfl ?_
        refine ri_ialdE h _ d_Md_carry_39 (by first | assumption | exact hS.a16) (by first | rfl | assumption) (by first | assumption | omega) (by first | decide | omega) (by first | assumption | exact hm.i16 (by first | assumption | omega) | rfl) ?_
        refine ri_iconstN h 3 d_Md_carry_40 rfl ?_
        first | refine ri_icmpN_le h 52 d_Md_carry_41 (by decide) (by omega) (by omega) (fun c_41 => ?_) (fun c_41 => ?_) | refine ri_icmp_le h 52 d_Md_carry_41 (by decide) (fun c_41 => ?_) (fun c_41 => ?_)
        · exact absurd c_41 (by decide +kernel)
        · refine ri_aload_n h d_Md_carry_44 rfl ?_
          refine ri_get h d_Md_carry_45 fl_Md_162 (by first | assumption | exact hS.mo | exact gup_s) (by rfl) ?_
          refine ri_lneg h d_Md_carry_48 ?_
          refine ri_goto h 56 d_Md_carry_49 (by decide) ?_
          refine ri_pm_py h d_Md_carry_56 fl_Md_162 hS (fun M hS => ?_)
          refine ri_iconstN h 0 d_Md_carry_59 rfl ?_
          refine ri_istore h d_Md_carry_60 (Nat.le_of_ble_eq_true rfl) ?_
          refine ri_iload h d_Md_carry_62 rfl ?_
          refine ri_aload_n h d_Md_carry_64 rfl ?_
          refine ri_get h d_Md_carry_65 fl_Md_48 (by first | assumption | exact hS.mo | exact gup_s) (by rfl) ?_
          refine ri_iload h d_Md_carry_68 rfl ?_
          refine ri_ialdE h _ d_Md_carry_70 (by first | assumption | exact hS.a16) (by first | rfl | assumption) (by first | assumption | omega) (by first | decide | omega) (by first | assumption | exact hm.i16 (by first | assumption | omega) | rfl) ?_
          refine ri_iconstN h 4 d_Md_carry_71 rfl ?_
          refine ri_irem h d_Md_carry_72 (by decide) ?_
          first | refine ri_icmpN_ge h 103 d_Md_carry_73 (by decide) (by omega) (by omega) (fun c_73 => ?_) (fun c_73 => ?_) | refine ri_icmp_ge h 103 d_Md_carry_73 (by decide) (fun c_73 => ?_) (fun c_73 => ?_)
          · exact ri_ls [(0, .ref (ad 30 0)), (5, .int (nI j)), (6, .int (nI (st j).1))] ⟨rfl, rfl, rfl, trivial⟩ (kEnd _ _ _ hS (by rw [hT]; first | rfl | exact Int64.neg_neg | simp [tX]) (by rw [hT]; first | rfl | exact Int64.neg_neg | simp [tY]))
          · exact absurd (by decide +kernel) c_73
      · have e16 := e160 _ hT
        refine ri_aload_n h d_Md_carry_23 rfl ?_
        refine ri_get h d_Md_carry_24 fl_Md_85 (by first | assumption | exact hS.mo | exact gup_s) (by rfl) ?_
        refine ri_iload h d_Md_carry_27 rfl ?_
        refine ri_ialdE h _ d_Md_carry_29 (by first | assumption | exact hS.a30) (by first | rfl | assumption) (by first | assumption | omega) (by first | decide | omega) (by first | assumption | assumption | rfl) ?_
        refine ri_istore h d_Md_carry_30 (Nat.le_of_ble_eq_true rfl) ?_
        refine ri_aload_n h d_Md_carry_32 rfl ?_
        refine ri_aload_n h d_Md_carry_33 rfl ?_
        refine ri_get h d_Md_carry_34 fl_Md_48 (by first | assumption | exact hS.mo | exact gup_s) (by rfl) ?_
        refine ri_iload h d_Md_carry_37 rfl ?_
        refine ri_ialdE h _ d_Md_carry_39 (by first | assumption | exact hS.a16) (by first | rfl | assumption) (by first | assumption | omega) (by first | decide | omega) (by first | assumption | exact hm.i16 (by first | assumption | omega) | rfl) ?_
        refine ri_iconstN h 3 d_Md_carry_40 rfl ?_
        first | refine ri_icmpN_le h 52 d_Md_carry_41 (by decide) (by omega) (by omega) (fun c_41 => ?_) (fun c_41 => ?_) | refine ri_icmp_le h 52 d_Md_carry_41 (by decide) (fun c_41 => ?_) (fun c_41 => ?_)
        · exact absurd c_41 (by decide +kernel)
        · refine ri_aload_n h d_Md_carry_44 rfl ?_
          refine ri_get h d_Md_carry_45 fl_Md_162 (by first | assumption | exact hS.mo | exact gup_s) (by rfl) ?_
          refine ri_lneg h d_Md_carry_48 ?_
          refine ri_goto h 56 d_Md_carry_49 (by decide) ?_
          refine ri_pm_py h d_Md_carry_56 fl_Md_162 hS (fun M hS => ?_)
          refine ri_iconstN h 0 d_Md_carry_59 rfl ?_
          refine ri_istore h d_Md_carry_60 (Nat.le_of_ble_eq_true rfl) ?_
          refine ri_iload h d_Md_carry_62 rfl ?_
          refine ri_aload_n h d_Md_carry_64 rfl ?_
          refine ri_get h d_Md_carry_65 fl_Md_48 (by first | assumption | exact hS.mo | exact gup_s) (by rfl) ?_
          refine ri_iload h d_Md_carry_68 rfl ?_
          refine ri_ialdE h _ d_Md_carry_70 (by first | assumption | exact hS.a16) (by first | rfl | assumption) (by first | assumption | omega) (by first | decide | omega) (by first | assumption | exact hm.i16 (by first | assumption | omega) | rfl) ?_
          refine ri_iconstN h 4 d_Md_carry_71 rfl ?_
          refine ri_irem h d_Md_carry_72 (by decide) ?_
          first | refine ri_icmpN_ge h 103 d_Md_carry_73 (by decide) (by omega) (by omega) (fun c_73 => ?_) (fun c_73 => ?_) | refine ri_icmp_ge h 103 d_Md_carry_73 (by decide) (fun c_73 => ?_) (fun c_73 => ?_)
          · exact absurd c_73 (by decide +kernel)
          · refine ri_aload_n h d_Md_carry_76 rfl ?_
            refine ri_get h d_Md_carry_77 fl_Md_158 (by first | assumption | exact hS.mo | exact gup_s) (by rfl) ?_
            refine ri_lstore h d_Md_carry_80 (Nat.le_of_ble_eq_true rfl) ?_
            refine ri_aload_n h d_Md_carry_82 rfl ?_
            refine ri_aload_n h d_Md_carry_83 rfl ?_
            refine ri_get h d_Md_carry_84 fl_Md_162 (by first | assumption | exact hS.mo | exact gup_s) (by rfl) ?_
            refine ri_lneg h d_Md_carry_87 ?_
            refine ri_pm_px h d_Md_carry_88 fl_Md_158 hS (fun M hS => ?_)
            refine ri_aload_n h d_Md_carry_91 rfl ?_
            refine ri_lload h d_Md_carry_92 rfl ?_
            refine ri_pm_py h d_Md_carry_94 fl_Md_162 hS (fun M hS => ?_)
            first | refine ri_iincN h d_Md_carry_97 rfl (Nat.le_of_ble_eq_true rfl) ?_ | refine ri_iinc h _ d_Md_carry_97 rfl rfl (Nat.le_of_ble_eq_true rfl) ?_
            refine ri_goto h 62 d_Md_carry_100 (by decide) ?_
            refine ri_iload h d_Md_carry_62 rfl ?_
            refine ri_aload_n h d_Md_carry_64 rfl ?_
            refine ri_get h d_Md_carry_65 fl_Md_48 (by first | assumption | exact hS.mo | exact gup_s) (by rfl) ?_
            refine ri_iload h d_Md_carry_68 rfl ?_
            refine ri_ialdE h _ d_Md_carry_70 (by first | assumption | exact hS.a16) (by first | rfl | assumption) (by first | assumption | omega) (by first | decide | omega) (by first | assumption | exact hm.i16 (by first | assumption | omega) | rfl) ?_
            refine ri_iconstN h 4 d_Md_carry_71 rfl ?_
            refine ri_irem h d_Md_carry_72 (by decide) ?_
            first | refine ri_icmpN_ge h 103 d_Md_carry_73 (by decide) (by omega) (by omega) (fun c_73 => ?_) (fun c_73 => ?_) | refine ri_icmp_ge h 103 d_Md_carry_73 (by decide) (fun c_73 => ?_) (fun c_73 => ?_)
            · exact ri_ls [(0, .ref (ad 30 0)), (5, .int (nI j)), (6, .int (nI (st j).1))] ⟨rfl, rfl, rfl, trivial⟩ (kEnd _ _ _ hS (by rw [hT]; first | rfl | exact Int64.neg_neg | simp [tX]) (by rw [hT]; first | rfl | exact Int64.neg_neg | simp [tY]))
            · exact absurd (by decide +kernel) c_73
      · have e16 := e160 _ hT
        refine ri_aload_n h d_Md_carry_23 rfl ?_
        refine ri_get h d_Md_carry_24 fl_Md_85 (by first | assumption | exact hS.mo | exact gup_s) (by rfl) ?_
        refine ri_iload h d_Md_carry_27 rfl ?_
        refine ri_ialdE h _ d_Md_carry_29 (by first | assumption | exact hS.a30) (by first | rfl | assumption) (by first | assumption | omega) (by first | decide | omega) (by first | assumption | assumption | rfl) ?_
        refine ri_istore h d_Md_carry_30 (Nat.le_of_ble_eq_true rfl) ?_
        refine ri_aload_n h d_Md_carry_32 rfl ?_
        refine ri_aload_n h d_Md_carry_33 rfl ?_
        refine ri_get h d_Md_carry_34 fl_Md_48 (by first | assumption | exact hS.mo | exact gup_s) (by rfl) ?_
        refine ri_iload h d_Md_carry_37 rfl ?_
        refine ri_ialdE h _ d_Md_carry_39 (by first | assumption | exact hS.a16) (by first | rfl | assumption) (by first | assumption | omega) (by first | decide | omega) (by first | assumption | exact hm.i16 (by first | assumption | omega) | rfl) ?_
        refine ri_iconstN h 3 d_Md_carry_40 rfl ?_
        first | refine ri_icmpN_le h 52 d_Md_carry_41 (by decide) (by omega) (by omega) (fun c_41 => ?_) (fun c_41 => ?_) | refine ri_icmp_le h 52 d_Md_carry_41 (by decide) (fun c_41 => ?_) (fun c_41 => ?_)
        · exact absurd c_41 (by decide +kernel)
        · refine ri_aload_n h d_Md_carry_44 rfl ?_
          refine ri_get h d_Md_carry_45 fl_Md_162 (by first | assumption | exact hS.mo | exact gup_s) (by rfl) ?_
          refine ri_lneg h d_Md_carry_48 ?_
          refine ri_goto h 56 d_Md_carry_49 (by decide) ?_
          refine ri_pm_py h d_Md_carry_56 fl_Md_162 hS (fun M hS => ?_)
          refine ri_iconstN h 0 d_Md_carry_59 rfl ?_
          refine ri_istore h d_Md_carry_60 (Nat.le_of_ble_eq_true rfl) ?_
          refine ri_iload h d_Md_carry_62 rfl ?_
          refine ri_aload_n h d_Md_carry_64 rfl ?_
          refine ri_get h d_Md_carry_65 fl_Md_48 (by first | assumption | exact hS.mo | exact gup_s) (by rfl) ?_
          refine ri_iload h d_Md_carry_68 rfl ?_
          refine ri_ialdE h _ d_Md_carry_70 (by first | assumption | exact hS.a16) (by first | rfl | assumption) (by first | assumption | omega) (by first | decide | omega) (by first | assumption | exact hm.i16 (by first | assumption | omega) | rfl) ?_
          refine ri_iconstN h 4 d_Md_carry_71 rfl ?_
          refine ri_irem h d_Md_carry_72 (by decide) ?_
          first | refine ri_icmpN_ge h 103 d_Md_carry_73 (by decide) (by omega) (by omega) (fun c_73 => ?_) (fun c_73 => ?_) | refine ri_icmp_ge h 103 d_Md_carry_73 (by decide) (fun c_73 => ?_) (fun c_73 => ?_)
          · exact absurd c_73 (by decide +kernel)
          · refine ri_aload_n h d_Md_carry_76 rfl ?_
            refine ri_get h d_Md_carry_77 fl_Md_158 (by first | assumption | exact hS.mo | exact gup_s) (by rfl) ?_
            refine ri_lstore h d_Md_carry_80 (Nat.le_of_ble_eq_true rfl) ?_
            refine ri_aload_n h d_Md_carry_82 rfl ?_
            refine ri_aload_n h d_Md_carry_83 rfl ?_
            refine ri_get h d_Md_carry_84 fl_Md_162 (by first | assumption | exact hS.mo | exact gup_s) (by rfl) ?_
            refine ri_lneg h d_Md_carry_87 ?_
            refine ri_pm_px h d_Md_carry_88 fl_Md_158 hS (fun M hS => ?_)
            refine ri_aload_n h d_Md_carry_91 rfl ?_
            refine ri_lload h d_Md_carry_92 rfl ?_
            refine ri_pm_py h d_Md_carry_94 fl_Md_162 hS (fun M hS => ?_)
            first | refine ri_iincN h d_Md_carry_97 rfl (Nat.le_of_ble_eq_true rfl) ?_ | refine ri_iinc h _ d_Md_carry_97 rfl rfl (Nat.le_of_ble_eq_true rfl) ?_
            refine ri_goto h 62 d_Md_carry_100 (by decide) ?_
            refine ri_iload h d_Md_carry_62 rfl ?_
            refine ri_aload_n h d_Md_carry_64 rfl ?_
            refine ri_get h d_Md_carry_65 fl_Md_48 (by first | assumption | exact hS.mo | exact gup_s) (by rfl) ?_
            refine ri_iload h d_Md_carry_68 rfl ?_
            refine ri_ialdE h _ d_Md_carry_70 (by first | assumption | exact hS.a16) (by first | rfl | assumption) (by first | assumption | omega) (by first | decide | omega) (by first | assumption | exact hm.i16 (by first | assumption | omega) | rfl) ?_
            refine ri_iconstN h 4 d_Md_carry_71 rfl ?_
            refine ri_irem h d_Md_carry_72 (by decide) ?_
            first | refine ri_icmpN_ge h 103 d_Md_carry_73 (by decide) (by omega) (by omega) (fun c_73 => ?_) (fun c_73 => ?_) | refine ri_icmp_ge h 103 d_Md_carry_73 (by decide) (fun c_73 => ?_) (fun c_73 => ?_)
            · exact absurd c_73 (by decide +kernel)
            · refine ri_aload_n h d_Md_carry_76 rfl ?_
              refine ri_get h d_Md_carry_77 fl_Md_158 (by first | assumption | exact hS.mo | exact gup_s) (by rfl) ?_
              refine ri_lstore h d_Md_carry_80 (Nat.le_of_ble_eq_true rfl) ?_
              refine ri_aload_n h d_Md_carry_82 rfl ?_
              refine ri_aload_n h d_Md_carry_83 rfl ?_
              refine ri_get h d_Md_carry_84 fl_Md_162 (by first | assumption | exact hS.mo | exact gup_s) (by rfl) ?_
              refine ri_lneg h d_Md_carry_87 ?_
              refine ri_pm_px h d_Md_carry_88 fl_Md_158 hS (fun M hS => ?_)
              refine ri_aload_n h d_Md_carry_91 rfl ?_
              refine ri_lload h d_Md_carry_92 rfl ?_
              refine ri_pm_py h d_Md_carry_94 fl_Md_162 hS (fun M hS => ?_)
              first | refine ri_iincN h d_Md_carry_97 rfl (Nat.le_of_ble_eq_true rfl) ?_ | refine ri_iinc h _ d_Md_carry_97 rfl rfl (Nat.le_of_ble_eq_true rfl) ?_
              refine ri_goto h 62 d_Md_carry_100 (by decide) ?_
              refine ri_iload h d_Md_carry_62 rfl ?_
              refine ri_aload_n h d_Md_carry_64 rfl ?_
              refine ri_get h d_Md_carry_65 fl_Md_48 (by first | assumption | exact hS.mo | exact gup_s) (by rfl) ?_
              refine ri_iload h d_Md_carry_68 rfl ?_
              refine ri_ialdE h _ d_Md_carry_70 (by first | assumption | exact hS.a16) (by first | rfl | assumption) (by first | assumption | omega) (by first | decide | omega) (by first | assumption | exact hm.i16 (by first | assumption | omega) | rfl) ?_
              refine ri_iconstN h 4 d_Md_carry_71 rfl ?_
              refine ri_irem h d_Md_carry_72 (by decide) ?_
              first | refine ri_icmpN_ge h 103 d_Md_carry_73 (by decide) (by omega) (by omega) (fun c_73 => ?_) (fun c_73 => ?_) | refine ri_icmp_ge h 103 d_Md_carry_73 (by decide) (fun c_73 => ?_) (fun c_73 => ?_)
              · exact ri_ls [(0, .ref (ad 30 0)), (5, .int (nI j)), (6, .int (nI (st j).1))] ⟨rfl, rfl, rfl, trivial⟩ (kEnd _ _ _ hS (by rw [hT]; first | rfl | exact Int64.neg_neg | simp [tX]) (by rw [hT]; first | rfl | exact Int64.neg_neg | simp [tY]))
              · exact absurd (by decide +kernel) c_73
      · have e16 := e160 _ hT
        refine ri_aload_n h d_Md_carry_23 rfl ?_
        refine ri_get h d_Md_carry_24 fl_Md_85 (by first | assumption | exact hS.mo | exact gup_s) (by rfl) ?_
        refine ri_iload h d_Md_carry_27 rfl ?_
        refine ri_ialdE h _ d_Md_carry_29 (by first | assumption | exact hS.a30) (by first | rfl | assumption) (by first | assumption | omega) (by first | decide | omega) (by first | assumption | assumption | rfl) ?_
        refine ri_istore h d_Md_carry_30 (Nat.le_of_ble_eq_true rfl) ?_
        refine ri_aload_n h d_Md_carry_32 rfl ?_
        refine ri_aload_n h d_Md_carry_33 rfl ?_
        refine ri_get h d_Md_carry_34 fl_Md_48 (by first | assumption | exact hS.mo | exact gup_s) (by rfl) ?_
        refine ri_iload h d_Md_carry_37 rfl ?_
        refine ri_ialdE h _ d_Md_carry_39 (by first | assumption | exact hS.a16) (by first | rfl | assumption) (by first | assumption | omega) (by first | decide | omega) (by first | assumption | exact hm.i16 (by first | assumption | omega) | rfl) ?_
        refine ri_iconstN h 3 d_Md_carry_40 rfl ?_
        first | refine ri_icmpN_le h 52 d_Md_carry_41 (by decide) (by omega) (by omega) (fun c_41 => ?_) (fun c_41 => ?_) | refine ri_icmp_le h 52 d_Md_carry_41 (by decide) (fun c_41 => ?_) (fun c_41 => ?_)
        · exact absurd c_41 (by decide +kernel)
        · refine ri_aload_n h d_Md_carry_44 rfl ?_
          refine ri_get h d_Md_carry_45 fl_Md_162 (by first | assumption | exact hS.mo | exact gup_s) (by rfl) ?_
          refine ri_lneg h d_Md_carry_48 ?_
          refine ri_goto h 56 d_Md_carry_49 (by decide) ?_
          refine ri_pm_py h d_Md_carry_56 fl_Md_162 hS (fun M hS => ?_)
          refine ri_iconstN h 0 d_Md_carry_59 rfl ?_
          refine ri_istore h d_Md_carry_60 (Nat.le_of_ble_eq_true rfl) ?_
          refine ri_iload h d_Md_carry_62 rfl ?_
          refine ri_aload_n h d_Md_carry_64 rfl ?_
          refine ri_get h d_Md_carry_65 fl_Md_48 (by first | assumption | exact hS.mo | exact gup_s) (by rfl) ?_
          refine ri_iload h d_Md_carry_68 rfl ?_
          refine ri_ialdE h _ d_Md_carry_70 (by first | assumption | exact hS.a16) (by first | rfl | assumption) (by first | assumption | omega) (by first | decide | omega) (by first | assumption | exact hm.i16 (by first | assumption | omega) | rfl) ?_
          refine ri_iconstN h 4 d_Md_carry_71 rfl ?_
          refine ri_irem h d_Md_carry_72 (by decide) ?_
          first | refine ri_icmpN_ge h 103 d_Md_carry_73 (by decide) (by omega) (by omega) (fun c_73 => ?_) (fun c_73 => ?_) | refine ri_icmp_ge h 103 d_Md_carry_73 (by decide) (fun c_73 => ?_) (fun c_73 => ?_)
          · exact absurd c_73 (by decide +kernel)
          · refine ri_aload_n h d_Md_carry_76 rfl ?_
            refine ri_get h d_Md_carry_77 fl_Md_158 (by first | assumption | exact hS.mo | exact gup_s) (by rfl) ?_
            refine ri_lstore h d_Md_carry_80 (Nat.le_of_ble_eq_true rfl) ?_
            refine ri_aload_n h d_Md_carry_82 rfl ?_
            refine ri_aload_n h d_Md_carry_83 rfl ?_
            refine ri_get h d_Md_carry_84 fl_Md_162 (by first | assumption | exact hS.mo | exact gup_s) (by rfl) ?_
            refine ri_lneg h d_Md_carry_87 ?_
            refine ri_pm_px h d_Md_carry_88 fl_Md_158 hS (fun M hS => ?_)
            refine ri_aload_n h d_Md_carry_91 rfl ?_
            refine ri_lload h d_Md_carry_92 rfl ?_
            refine ri_pm_py h d_Md_carry_94 fl_Md_162 hS (fun M hS => ?_)
            first | refine ri_iincN h d_Md_carry_97 rfl (Nat.le_of_ble_eq_true rfl) ?_ | refine ri_iinc h _ d_Md_carry_97 rfl rfl (Nat.le_of_ble_eq_true rfl) ?_
            refine ri_goto h 62 d_Md_carry_100 (by decide) ?_
            refine ri_iload h d_Md_carry_62 rfl ?_
            refine ri_aload_n h d_Md_carry_64 rfl ?_
            refine ri_get h d_Md_carry_65 fl_Md_48 (by first | assumption | exact hS.mo | exact gup_s) (by rfl) ?_
            refine ri_iload h d_Md_carry_68 rfl ?_
            refine ri_ialdE h _ d_Md_carry_70 (by first | assumption | exact hS.a16) (by first | rfl | assumption) (by first | assumption | omega) (by first | decide | omega) (by first | assumption | exact hm.i16 (by first | assumption | omega) | rfl) ?_
            refine ri_iconstN h 4 d_Md_carry_71 rfl ?_
            refine ri_irem h d_Md_carry_72 (by decide) ?_
            first | refine ri_icmpN_ge h 103 d_Md_carry_73 (by decide) (by omega) (by omega) (fun c_73 => ?_) (fun c_73 => ?_) | refine ri_icmp_ge h 103 d_Md_carry_73 (by decide) (fun c_73 => ?_) (fun c_73 => ?_)
            · exact absurd c_73 (by decide +kernel)
            · refine ri_aload_n h d_Md_carry_76 rfl ?_
              refine ri_get h d_Md_carry_77 fl_Md_158 (by first | assumption | exact hS.mo | exact gup_s) (by rfl) ?_
              refine ri_lstore h d_Md_carry_80 (Nat.le_of_ble_eq_true rfl) ?_
              refine ri_aload_n h d_Md_carry_82 rfl ?_
              refine ri_aload_n h d_Md_carry_83 rfl ?_
              refine ri_get h d_Md_carry_84 fl_Md_162 (by first | assumption | exact hS.mo | exact gup_s) (by rfl) ?_
              refine ri_lneg h d_Md_carry_87 ?_
              refine ri_pm_px h d_Md_carry_88 fl_Md_158 hS (fun M hS => ?_)
              refine ri_aload_n h d_Md_carry_91 rfl ?_
              refine ri_lload h d_Md_carry_92 rfl ?_
              refine ri_pm_py h d_Md_carry_94 fl_Md_162 hS (fun M hS => ?_)
              first | refine ri_iincN h d_Md_carry_97 rfl (Nat.le_of_ble_eq_true rfl) ?_ | refine ri_iinc h _ d_Md_carry_97 rfl rfl (Nat.le_of_ble_eq_true rfl) ?_
              refine ri_goto h 62 d_Md_carry_100 (by decide) ?_
              refine ri_iload h d_Md_carry_62 rfl ?_
              refine ri_aload_n h d_Md_carry_64 rfl ?_
              refine ri_get h d_Md_carry_65 fl_Md_48 (by first | assumption | exact hS.mo | exact gup_s) (by rfl) ?_
              refine ri_iload h d_Md_carry_68 rfl ?_
              refine ri_ialdE h _ d_Md_carry_70 (by first | assumption | exact hS.a16) (by first | rfl | assumption) (by first | assumption | omega) (by first | decide | omega) (by first | assumption | exact hm.i16 (by first | assumption | omega) | rfl) ?_
              refine ri_iconstN h 4 d_Md_carry_71 rfl ?_
              refine ri_irem h d_Md_carry_72 (by decide) ?_
              first | refine ri_icmpN_ge h 103 d_Md_carry_73 (by decide) (by omega) (by omega) (fun c_73 => ?_) (fun c_73 => ?_) | refine ri_icmp_ge h 103 d_Md_carry_73 (by decide) (fun c_73 => ?_) (fun c_73 => ?_)
              · exact absurd c_73 (by decide +kernel)
              · refine ri_aload_n h d_Md_carry_76 rfl ?_
                refine ri_get h d_Md_carry_77 fl_Md_158 (by first | assumption | exact hS.mo | exact gup_s) (by rfl) ?_
                refine ri_lstore h d_Md_carry_80 (Nat.le_of_ble_eq_true rfl) ?_
                refine ri_aload_n h d_Md_carry_82 rfl ?_
                refine ri_aload_n h d_Md_carry_83 rfl ?_
                refine ri_get h d_Md_carry_84 fl_Md_162 (by first | assumption | exact hS.mo | exact gup_s) (by rfl) ?_
                refine ri_lneg h d_Md_carry_87 ?_
                refine ri_pm_px h d_Md_carry_88 fl_Md_158 hS (fun M hS => ?_)
                refine ri_aload_n h d_Md_carry_91 rfl ?_
                refine ri_lload h d_Md_carry_92 rfl ?_
                refine ri_pm_py h d_Md_carry_94 fl_Md_162 hS (fun M hS => ?_)
                first | refine ri_iincN h d_Md_carry_97 rfl (Nat.le_of_ble_eq_true rfl) ?_ | refine ri_iinc h _ d_Md_carry_97 rfl rfl (Nat.le_of_ble_eq_true rfl) ?_
                refine ri_goto h 62 d_Md_carry_100 (by decide) ?_
                refine ri_iload h d_Md_carry_62 rfl ?_
                refine ri_aload_n h d_Md_carry_64 rfl ?_
                refine ri_get h d_Md_carry_65 fl_Md_48 (by first | assumption | exact hS.mo | exact gup_s) (by rfl) ?_
                refine ri_iload h d_Md_carry_68 rfl ?_
                refine ri_ialdE h _ d_Md_carry_70 (by first | assumption | exact hS.a16) (by first | rfl | assumption) (by first | assumption | omega) (by first | decide | omega) (by first | assumption | exact hm.i16 (by first | assumption | omega) | rfl) ?_
                refine ri_iconstN h 4 d_Md_carry_71 rfl ?_
                refine ri_irem h d_Md_carry_72 (by decide) ?_
                first | refine ri_icmpN_ge h 103 d_Md_carry_73 (by decide) (by omega) (by omega) (fun c_73 => ?_) (fun c_73 => ?_) | refine ri_icmp_ge h 103 d_Md_carry_73 (by decide) (fun c_73 => ?_) (fun c_73 => ?_)
                · exact ri_ls [(0, .ref (ad 30 0)), (5, .int (nI j)), (6, .int (nI (st j).1))] ⟨rfl, rfl, rfl, trivial⟩ (kEnd _ _ _ hS (by rw [hT]; first | rfl | exact Int64.neg_neg | simp [tX]) (by rw [hT]; first | rfl | exact Int64.neg_neg | simp [tY]))
                · exact absurd (by decide +kernel) c_73
  refine ri_aload_n h d_Md_carry_0 rfl ?_
  refine ri_lload_n h d_Md_carry_1 rfl ?_
  refine ri_pm_px h d_Md_carry_2 fl_Md_158 hS (fun M hS => ?_)
  refine ri_aload_n h d_Md_carry_5 rfl ?_
  refine ri_lload_n h d_Md_carry_6 rfl ?_
  refine ri_pm_py h d_Md_carry_7 fl_Md_162 hS (fun M hS => ?_)
  refine ri_aload_n h d_Md_carry_10 rfl ?_
  refine ri_get h d_Md_carry_11 fl_Md_165 (by first | assumption | exact hS.mo | exact gup_s) (by rfl) ?_
  refine ri_iconstN h 1 d_Md_carry_14 rfl ?_
  refine ri_isub h d_Md_carry_15 ?_
  refine ri_istore h d_Md_carry_16 (Nat.le_of_ble_eq_true rfl) ?_
  exact ri_ls [(0, .ref (ad 30 0)), (5, .int (nI d - nI 1))] ⟨rfl, (by show some (Value.int (N.depth - nI 1)) = _; rw [hN]), trivial⟩ (LP d (Nat.le_refl _) _ rfl _ _ _ hS rfl rfl)
end CAR
