/-! What the model's arrays hold of the class's state; the model's small methods -/
def MR (Q : CS) (N : MS) : Prop := N.layers = Q.L ∧ N.cells = Q.nC ∧ N.shapes = Q.nS ∧ N.places = Q.nP ∧
  (∀ s, s < Q.nS → N.i 3 s = nI (Q.sh s).cell ∧ N.i 4 s = (Q.sh s).layer ∧ N.l 5 s = (Q.sh s).w ∧ N.i 6 s = (Q.sh s).ends ∧ N.i 7 s = nI (Q.sh s).cnt ∧ N.i 8 s = (Q.sh s).drop ∧ ∀ k, k < (Q.sh s).cnt → N.l 9 (24 * s + k) = (Q.sh s).xs k ∧ N.l 10 (24 * s + k) = (Q.sh s).ys k) ∧
  (∀ s, Q.nS ≤ s → N.i 8 s = 0) ∧
  (∀ p, p < Q.nP → N.i 12 p = nI (Q.pl p).cell ∧ N.i 13 p = nI (Q.pl p).of ∧ N.l 14 p = (Q.pl p).x ∧ N.l 15 p = (Q.pl p).y ∧ N.i 16 p = nI (Q.pl p).turn ∧ N.i 17 p = nI (Q.pl p).cols ∧ N.i 18 p = nI (Q.pl p).rows ∧ N.l 19 p = (Q.pl p).dx ∧ N.l 20 p = (Q.pl p).dy) ∧
  N.hand = (Q.fl 0).cnt ∧ ∀ i, i < (Q.fl 0).cnt → N.i 25 (6000 + i) = nI ((Q.fl 0).cor i) ∧ ∀ k, k < (Q.fl 0).cor i → N.l 22 (144000 + 24 * i + k) = FX Q.sh (Q.fl 0) i k ∧ N.l 23 (144000 + 24 * i + k) = FY Q.sh (Q.fl 0) i k
section MRs
variable {Q : CS} {N : MS} {s p k : Nat}
theorem MR.la (h : MR Q N) : N.layers = Q.L := h.1
theorem MR.nc (h : MR Q N) : N.cells = Q.nC := h.2.1
theorem MR.ns (h : MR Q N) : N.shapes = Q.nS := h.2.2.1
theorem MR.np (h : MR Q N) : N.places = Q.nP := h.2.2.2.1
theorem MR.shs (h : MR Q N) (hs : s < Q.nS) : N.i 3 s = nI (Q.sh s).cell ∧ N.i 4 s = (Q.sh s).layer ∧ N.l 5 s = (Q.sh s).w ∧ N.i 6 s = (Q.sh s).ends ∧ N.i 7 s = nI (Q.sh s).cnt ∧ N.i 8 s = (Q.sh s).drop ∧ ∀ k, k < (Q.sh s).cnt → N.l 9 (24 * s + k) = (Q.sh s).xs k ∧ N.l 10 (24 * s + k) = (Q.sh s).ys k := h.2.2.2.2.1 s hs
theorem MR.i3 (h : MR Q N) (hs : s < Q.nS) : N.i 3 s = nI (Q.sh s).cell := (h.shs hs).1
theorem MR.i4 (h : MR Q N) (hs : s < Q.nS) : N.i 4 s = (Q.sh s).layer := (h.shs hs).2.1
theorem MR.i5 (h : MR Q N) (hs : s < Q.nS) : N.l 5 s = (Q.sh s).w := (h.shs hs).2.2.1
theorem MR.i6 (h : MR Q N) (hs : s < Q.nS) : N.i 6 s = (Q.sh s).ends := (h.shs hs).2.2.2.1
theorem MR.i7 (h : MR Q N) (hs : s < Q.nS) : N.i 7 s = nI (Q.sh s).cnt := (h.shs hs).2.2.2.2.1
theorem MR.i8 (h : MR Q N) (hs : s < Q.nS) : N.i 8 s = (Q.sh s).drop := (h.shs hs).2.2.2.2.2.1
theorem MR.i9 (h : MR Q N) (hs : s < Q.nS) (hk : k < (Q.sh s).cnt) : N.l 9 (24 * s + k) = (Q.sh s).xs k := ((h.shs hs).2.2.2.2.2.2 k hk).1
theorem MR.i10 (h : MR Q N) (hs : s < Q.nS) (hk : k < (Q.sh s).cnt) : N.l 10 (24 * s + k) = (Q.sh s).ys k := ((h.shs hs).2.2.2.2.2.2 k hk).2
theorem MR.g8 (h : MR Q N) (hs : Q.nS ≤ s) : N.i 8 s = 0 := h.2.2.2.2.2.1 s hs
theorem MR.pls (h : MR Q N) (hp : p < Q.nP) : N.i 12 p = nI (Q.pl p).cell ∧ N.i 13 p = nI (Q.pl p).of ∧ N.l 14 p = (Q.pl p).x ∧ N.l 15 p = (Q.pl p).y ∧ N.i 16 p = nI (Q.pl p).turn ∧ N.i 17 p = nI (Q.pl p).cols ∧ N.i 18 p = nI (Q.pl p).rows ∧ N.l 19 p = (Q.pl p).dx ∧ N.l 20 p = (Q.pl p).dy := h.2.2.2.2.2.2.1 p hp
theorem MR.i12 (h : MR Q N) (hp : p < Q.nP) : N.i 12 p = nI (Q.pl p).cell := (h.pls hp).1
theorem MR.i13 (h : MR Q N) (hp : p < Q.nP) : N.i 13 p = nI (Q.pl p).of := (h.pls hp).2.1
theorem MR.i14 (h : MR Q N) (hp : p < Q.nP) : N.l 14 p = (Q.pl p).x := (h.pls hp).2.2.1
theorem MR.i15 (h : MR Q N) (hp : p < Q.nP) : N.l 15 p = (Q.pl p).y := (h.pls hp).2.2.2.1
theorem MR.i16 (h : MR Q N) (hp : p < Q.nP) : N.i 16 p = nI (Q.pl p).turn := (h.pls hp).2.2.2.2.1
theorem MR.i17 (h : MR Q N) (hp : p < Q.nP) : N.i 17 p = nI (Q.pl p).cols := (h.pls hp).2.2.2.2.2.1
theorem MR.i18 (h : MR Q N) (hp : p < Q.nP) : N.i 18 p = nI (Q.pl p).rows := (h.pls hp).2.2.2.2.2.2.1
theorem MR.i19 (h : MR Q N) (hp : p < Q.nP) : N.l 19 p = (Q.pl p).dx := (h.pls hp).2.2.2.2.2.2.2.1
theorem MR.i20 (h : MR Q N) (hp : p < Q.nP) : N.l 20 p = (Q.pl p).dy := (h.pls hp).2.2.2.2.2.2.2.2
theorem MR.ha (h : MR Q N) : N.hand = (Q.fl 0).cnt := h.2.2.2.2.2.2.2.1
theorem MR.i25 (h : MR Q N) {i : Nat} (hi : i < (Q.fl 0).cnt) : N.i 25 (6000 + i) = nI ((Q.fl 0).cor i) := (h.2.2.2.2.2.2.2.2 i hi).1
theorem MR.i22 (h : MR Q N) {i : Nat} (hi : i < (Q.fl 0).cnt) (hk : k < (Q.fl 0).cor i) : N.l 22 (144000 + 24 * i + k) = FX Q.sh (Q.fl 0) i k := ((h.2.2.2.2.2.2.2.2 i hi).2 k hk).1
theorem MR.i23 (h : MR Q N) {i : Nat} (hi : i < (Q.fl 0).cnt) (hk : k < (Q.fl 0).cor i) : N.l 23 (144000 + 24 * i + k) = FY Q.sh (Q.fl 0) i k := ((h.2.2.2.2.2.2.2.2 i hi).2 k hk).2
end MRs
section MC
variable {l : Launch} {D : gD} {s0 : State} {M : gH} {z : Nat} {ad : gA} {Q Qc : CS} {N : MS} {c i : Nat}
/-- the model's methods: what they answer, and the state behind -/
abbrev fM (z : Nat) (ad : gA) (Q : CS) (v : Option Value) (P : MS → Prop) : gR → gH → Prop := fS v (fun M' => ∃ N', HS z ad Q N' M' ∧ P N')
theorem k_far (h0 : g_0 l D s0) {v : Int64} : Ct l D s0 y_Md_isFar (Cond.code y_Md_isFar b_Md_isFar 2 (some .boolean)) (rk 0 0 0) [.long v] M (fR (some (.int (bI (¬ nearB v)))) M) := by
  refine Ct.of h0 (by decide +kernel) rfl fun X hX h => ?_
  obtain ⟨p_, l', e_, R_, s_, m_, ar_, be_, me_, c_⟩ := X
  obtain rfl : l' = l := hX
  refine ri_lload_n h d_Md_isFar_0 rfl ?_
  refine ri_ldc2 h (-1000000) d_Md_isFar_1 kl_Md_114 ?_
  refine ri_lcmp_lt h 16 d_Md_isFar_4 d_Md_isFar_5 (by decide) (fun c_4 => ?_) (fun c_4 => ?_)
  · refine ri_iconst h 1 d_Md_isFar_16 rfl ?_
    refine ri_goto h 21 d_Md_isFar_17 (by decide) ?_
    refine ri_zreturn h d_Md_isFar_21 (Nat.le_of_ble_eq_true rfl) (Nat.le_of_ble_eq_true rfl) (by first | rfl | assumption) ?_
    first | exact ⟨congrArg (fun x => Sum.inl (some (Value.int x))) (bI_1 (fun q => absurd c_4 (Int64.not_lt.mpr q.1))).symm, rfl⟩ | exact ⟨congrArg (fun x => Sum.inl (some (Value.int x))) (bI_0 (fun q => q ⟨Int64.not_lt.mp c_4, c_12⟩)).symm, rfl⟩ | exact ⟨congrArg (fun x => Sum.inl (some (Value.int x))) (bI_1 (fun q => c_12 q.2)).symm, rfl⟩
  · refine ri_lload_n h d_Md_isFar_8 rfl ?_
    refine ri_ldc2 h 1000000 d_Md_isFar_9 kl_Md_116 ?_
    refine ri_lcmp_le h 20 d_Md_isFar_12 d_Md_isFar_13 (by decide) (fun c_12 => ?_) (fun c_12 => ?_)
    · refine ri_iconst h 0 d_Md_isFar_20 rfl ?_
      refine ri_zreturn h d_Md_isFar_21 (Nat.le_of_ble_eq_true rfl) (Nat.le_of_ble_eq_true rfl) (by first | rfl | assumption) ?_
      first | exact ⟨congrArg (fun x => Sum.inl (some (Value.int x))) (bI_1 (fun q => absurd c_4 (Int64.not_lt.mpr q.1))).symm, rfl⟩ | exact ⟨congrArg (fun x => Sum.inl (some (Value.int x))) (bI_0 (fun q => q ⟨Int64.not_lt.mp c_4, c_12⟩)).symm, rfl⟩ | exact ⟨congrArg (fun x => Sum.inl (some (Value.int x))) (bI_1 (fun q => c_12 q.2)).symm, rfl⟩
    · refine ri_iconst h 1 d_Md_isFar_16 rfl ?_
      refine ri_goto h 21 d_Md_isFar_17 (by decide) ?_
      refine ri_zreturn h d_Md_isFar_21 (Nat.le_of_ble_eq_true rfl) (Nat.le_of_ble_eq_true rfl) (by first | rfl | assumption) ?_
      first | exact ⟨congrArg (fun x => Sum.inl (some (Value.int x))) (bI_1 (fun q => absurd c_4 (Int64.not_lt.mpr q.1))).symm, rfl⟩ | exact ⟨congrArg (fun x => Sum.inl (some (Value.int x))) (bI_0 (fun q => q ⟨Int64.not_lt.mp c_4, c_12⟩)).symm, rfl⟩ | exact ⟨congrArg (fun x => Sum.inl (some (Value.int x))) (bI_1 (fun q => c_12 q.2)).symm, rfl⟩
theorem k_isCell (h0 : g_0 l D s0) (hS : HS z ad Qc N M) (hb : N.cells < 2 ^ 31) {v : Int32} : Ct l D s0 y_Md_isCell (Cond.code y_Md_isCell b_Md_isCell 2 (some .boolean)) (rk 0 0 0) [.ref (ad 30 0), .int v] M (fR (some (.int (bI (∃ c, c < N.cells ∧ v = nI c)))) M) := by
  refine Ct.of h0 (by decide +kernel) rfl fun X hX h => ?_
  obtain ⟨p_, l', e_, R_, s_, m_, ar_, be_, me_, c_⟩ := X
  obtain rfl : l' = l := hX
  refine ri_iload_n h d_Md_isCell_0 rfl ?_
  refine ri_if_lt h 16 d_Md_isCell_1 (by decide) (fun c_1 => ?_) (fun c_1 => ?_)
  · refine ri_iconst h 0 d_Md_isCell_16 rfl ?_
    refine ri_zreturn h d_Md_isCell_17 (Nat.le_of_ble_eq_true rfl) (Nat.le_of_ble_eq_true rfl) (by first | rfl | assumption) ?_
    first | exact ⟨congrArg (fun x => Sum.inl (some (Value.int x))) (bI_0 (fun q => (ix_0 hb q).1 c_1)).symm, rfl⟩ | exact ⟨congrArg (fun x => Sum.inl (some (Value.int x))) (bI_0 (fun q => absurd (ix_0 hb q).2 (Int32.not_lt.mpr c_9))).symm, rfl⟩ | exact ⟨congrArg (fun x => Sum.inl (some (Value.int x))) (bI_1 (ix_of hb c_1 (Int32.not_le.mp c_9))).symm, rfl⟩
  · refine ri_iload_n h d_Md_isCell_4 rfl ?_
    refine ri_aload_n h d_Md_isCell_5 rfl ?_
    refine ri_get h d_Md_isCell_6 fl_Md_111 (by first | assumption | exact hS.mo | exact gup_s) (by rfl) ?_
    refine ri_icmp_ge h 16 d_Md_isCell_9 (by decide) (fun c_9 => ?_) (fun c_9 => ?_)
    · refine ri_iconst h 0 d_Md_isCell_16 rfl ?_
      refine ri_zreturn h d_Md_isCell_17 (Nat.le_of_ble_eq_true rfl) (Nat.le_of_ble_eq_true rfl) (by first | rfl | assumption) ?_
      first | exact ⟨congrArg (fun x => Sum.inl (some (Value.int x))) (bI_0 (fun q => (ix_0 hb q).1 c_1)).symm, rfl⟩ | exact ⟨congrArg (fun x => Sum.inl (some (Value.int x))) (bI_0 (fun q => absurd (ix_0 hb q).2 (Int32.not_lt.mpr c_9))).symm, rfl⟩ | exact ⟨congrArg (fun x => Sum.inl (some (Value.int x))) (bI_1 (ix_of hb c_1 (Int32.not_le.mp c_9))).symm, rfl⟩
    · refine ri_iconst h 1 d_Md_isCell_12 rfl ?_
      refine ri_goto h 17 d_Md_isCell_13 (by decide) ?_
      refine ri_zreturn h d_Md_isCell_17 (Nat.le_of_ble_eq_true rfl) (Nat.le_of_ble_eq_true rfl) (by first | rfl | assumption) ?_
      first | exact ⟨congrArg (fun x => Sum.inl (some (Value.int x))) (bI_0 (fun q => (ix_0 hb q).1 c_1)).symm, rfl⟩ | exact ⟨congrArg (fun x => Sum.inl (some (Value.int x))) (bI_0 (fun q => absurd (ix_0 hb q).2 (Int32.not_lt.mpr c_9))).symm, rfl⟩ | exact ⟨congrArg (fun x => Sum.inl (some (Value.int x))) (bI_1 (ix_of hb c_1 (Int32.not_le.mp c_9))).symm, rfl⟩
theorem k_isLayer (h0 : g_0 l D s0) (hS : HS z ad Qc N M) {v : Int32} : Ct l D s0 y_Md_isLayer (Cond.code y_Md_isLayer b_Md_isLayer 2 (some .boolean)) (rk 0 0 0) [.ref (ad 30 0), .int v] M (fR (some (.int (bI (¬ v < 0 ∧ v < N.layers)))) M) := by
  refine Ct.of h0 (by decide +kernel) rfl fun X hX h => ?_
  obtain ⟨p_, l', e_, R_, s_, m_, ar_, be_, me_, c_⟩ := X
  obtain rfl : l' = l := hX
  refine ri_iload_n h d_Md_isLayer_0 rfl ?_
  refine ri_if_lt h 16 d_Md_isLayer_1 (by decide) (fun c_1 => ?_) (fun c_1 => ?_)
  · refine ri_iconst h 0 d_Md_isLayer_16 rfl ?_
    refine ri_zreturn h d_Md_isLayer_17 (Nat.le_of_ble_eq_true rfl) (Nat.le_of_ble_eq_true rfl) (by first | rfl | assumption) ?_
    first | exact ⟨congrArg (fun x => Sum.inl (some (Value.int x))) (bI_0 (fun q => q.1 c_1)).symm, rfl⟩ | exact ⟨congrArg (fun x => Sum.inl (some (Value.int x))) (bI_0 (fun q => absurd q.2 (Int32.not_lt.mpr c_9))).symm, rfl⟩ | exact ⟨congrArg (fun x => Sum.inl (some (Value.int x))) (bI_1 ⟨c_1, Int32.not_le.mp c_9⟩).symm, rfl⟩
  · refine ri_iload_n h d_Md_isLayer_4 rfl ?_
    refine ri_aload_n h d_Md_isLayer_5 rfl ?_
    refine ri_get h d_Md_isLayer_6 fl_Md_104 (by first | assumption | exact hS.mo | exact gup_s) (by rfl) ?_
    refine ri_icmp_ge h 16 d_Md_isLayer_9 (by decide) (fun c_9 => ?_) (fun c_9 => ?_)
    · refine ri_iconst h 0 d_Md_isLayer_16 rfl ?_
      refine ri_zreturn h d_Md_isLayer_17 (Nat.le_of_ble_eq_true rfl) (Nat.le_of_ble_eq_true rfl) (by first | rfl | assumption) ?_
      first | exact ⟨congrArg (fun x => Sum.inl (some (Value.int x))) (bI_0 (fun q => q.1 c_1)).symm, rfl⟩ | exact ⟨congrArg (fun x => Sum.inl (some (Value.int x))) (bI_0 (fun q => absurd q.2 (Int32.not_lt.mpr c_9))).symm, rfl⟩ | exact ⟨congrArg (fun x => Sum.inl (some (Value.int x))) (bI_1 ⟨c_1, Int32.not_le.mp c_9⟩).symm, rfl⟩
    · refine ri_iconst h 1 d_Md_isLayer_12 rfl ?_
      refine ri_goto h 17 d_Md_isLayer_13 (by decide) ?_
      refine ri_zreturn h d_Md_isLayer_17 (Nat.le_of_ble_eq_true rfl) (Nat.le_of_ble_eq_true rfl) (by first | rfl | assumption) ?_
      first | exact ⟨congrArg (fun x => Sum.inl (some (Value.int x))) (bI_0 (fun q => q.1 c_1)).symm, rfl⟩ | exact ⟨congrArg (fun x => Sum.inl (some (Value.int x))) (bI_0 (fun q => absurd q.2 (Int32.not_lt.mpr c_9))).symm, rfl⟩ | exact ⟨congrArg (fun x => Sum.inl (some (Value.int x))) (bI_1 ⟨c_1, Int32.not_le.mp c_9⟩).symm, rfl⟩
theorem k_mcell_no (h0 : g_0 l D s0) (hS : HS z ad Qc N M) (hn : N.cells = 20) : Ct l D s0 y_Md_cell (Cond.code y_Md_cell b_Md_cell 1 (some .int)) rkM [.ref (ad 30 0)] M (fM z ad Qc (some (.int 0)) (fun N' => N' = N.set_code 1)) := by
  refine Ct.of h0 (by decide +kernel) rfl fun X hX h => ?_
  obtain ⟨p_, l', e_, R_, s_, m_, ar_, be_, me_, c_⟩ := X
  obtain rfl : l' = l := hX
  refine ri_aload_n h d_Md_cell_0 rfl ?_
  refine ri_aload_n h d_Md_cell_1 rfl ?_
  refine ri_get h d_Md_cell_2 fl_Md_111 (by first | assumption | exact hS.mo | exact gup_s) (by rfl) ?_
  refine ri_bipushN h 20 d_Md_cell_5 rfl ?_
  first | refine ri_icmpN_ne h 14 d_Md_cell_7 (by decide) (by omega) (by omega) (fun c_7 => ?_) (fun c_7 => ?_) | refine ri_icmp_ne h 14 d_Md_cell_7 (by decide) (fun c_7 => ?_) (fun c_7 => ?_)
  · first
    | (exfalso; omega)
    | (refine ri_iconstN h 0 d_Md_cell_14 rfl ?_
       refine ri_put h d_Md_cell_15 fl_Md_108 (fun r hr => by cases hr; rfl) (by first | assumption | exact hS.mo | exact gup_s) (by first | rfl | assumption) (by first | rfl | decide | assumption) ?_
       refine ri_gH (hS.p_code _) (fun M hS => ?_)
       refine ri_aload_n h d_Md_cell_18 rfl ?_
       refine ri_get h d_Md_cell_19 fl_Md_108 (by first | assumption | exact hS.mo | exact gup_s) (by rfl) ?_
       first | refine ri_ifN_le h 27 d_Md_cell_22 (by decide) (by omega) (fun c_22 => ?_) (fun c_22 => ?_) | refine ri_if_le h 27 d_Md_cell_22 (by decide) (fun c_22 => ?_) (fun c_22 => ?_)
       · first
         | (exfalso; omega)
         | (refine ri_aload_n h d_Md_cell_27 rfl ?_
            refine ri_dup h d_Md_cell_28 rfl ?_
            refine ri_get h d_Md_cell_29 fl_Md_111 (by first | assumption | exact hS.mo | exact gup_s) (by rfl) ?_
            refine ri_iconstN h 1 d_Md_cell_32 rfl ?_
            first | refine ri_iaddN h d_Md_cell_33 ?_ | refine ri_iadd h d_Md_cell_33 ?_
            refine ri_put h d_Md_cell_34 fl_Md_111 (fun r hr => by cases hr; rfl) (by first | assumption | exact hS.mo | exact gup_s) (by first | rfl | assumption) (by first | rfl | decide | assumption) ?_
            refine ri_gH (hS.p_cells _) (fun M hS => ?_)
            refine ri_aload_n h d_Md_cell_37 rfl ?_
            refine ri_get h d_Md_cell_38 fl_Md_111 (by first | assumption | exact hS.mo | exact gup_s) (by rfl) ?_
            refine ri_iconstN h 1 d_Md_cell_41 rfl ?_
            first | refine ri_isubN h d_Md_cell_42 (by first | omega | exact Nat.le_add_left _ _) ?_ | refine ri_isub h d_Md_cell_42 ?_
            refine ri_ireturn h d_Md_cell_43 (Nat.le_of_ble_eq_true rfl) (Nat.le_of_ble_eq_true rfl) ?_
            exact ⟨rfl, _, hS, rfl⟩)
       · first
         | (exfalso; omega)
         | (refine ri_iconstN h 0 d_Md_cell_25 rfl ?_
            refine ri_ireturn h d_Md_cell_26 (Nat.le_of_ble_eq_true rfl) (Nat.le_of_ble_eq_true rfl) ?_
            exact ⟨rfl, _, hS, rfl⟩))
  · first
    | (exfalso; omega)
    | (refine ri_iconstN h 1 d_Md_cell_10 rfl ?_
       refine ri_goto h 15 d_Md_cell_11 (by decide) ?_
       refine ri_put h d_Md_cell_15 fl_Md_108 (fun r hr => by cases hr; rfl) (by first | assumption | exact hS.mo | exact gup_s) (by first | rfl | assumption) (by first | rfl | decide | assumption) ?_
       refine ri_gH (hS.p_code _) (fun M hS => ?_)
       refine ri_aload_n h d_Md_cell_18 rfl ?_
       refine ri_get h d_Md_cell_19 fl_Md_108 (by first | assumption | exact hS.mo | exact gup_s) (by rfl) ?_
       first | refine ri_ifN_le h 27 d_Md_cell_22 (by decide) (by omega) (fun c_22 => ?_) (fun c_22 => ?_) | refine ri_if_le h 27 d_Md_cell_22 (by decide) (fun c_22 => ?_) (fun c_22 => ?_)
       · first
         | (exfalso; omega)
         | (refine ri_aload_n h d_Md_cell_27 rfl ?_
            refine ri_dup h d_Md_cell_28 rfl ?_
            refine ri_get h d_Md_cell_29 fl_Md_111 (by first | assumption | exact hS.mo | exact gup_s) (by rfl) ?_
            refine ri_iconstN h 1 d_Md_cell_32 rfl ?_
            first | refine ri_iaddN h d_Md_cell_33 ?_ | refine ri_iadd h d_Md_cell_33 ?_
            refine ri_put h d_Md_cell_34 fl_Md_111 (fun r hr => by cases hr; rfl) (by first | assumption | exact hS.mo | exact gup_s) (by first | rfl | assumption) (by first | rfl | decide | assumption) ?_
            refine ri_gH (hS.p_cells _) (fun M hS => ?_)
            refine ri_aload_n h d_Md_cell_37 rfl ?_
            refine ri_get h d_Md_cell_38 fl_Md_111 (by first | assumption | exact hS.mo | exact gup_s) (by rfl) ?_
            refine ri_iconstN h 1 d_Md_cell_41 rfl ?_
            first | refine ri_isubN h d_Md_cell_42 (by first | omega | exact Nat.le_add_left _ _) ?_ | refine ri_isub h d_Md_cell_42 ?_
            refine ri_ireturn h d_Md_cell_43 (Nat.le_of_ble_eq_true rfl) (Nat.le_of_ble_eq_true rfl) ?_
            exact ⟨rfl, _, hS, rfl⟩)
       · first
         | (exfalso; omega)
         | (refine ri_iconstN h 0 d_Md_cell_25 rfl ?_
            refine ri_ireturn h d_Md_cell_26 (Nat.le_of_ble_eq_true rfl) (Nat.le_of_ble_eq_true rfl) ?_
            exact ⟨rfl, _, hS, rfl⟩))
theorem k_mcell_ok (h0 : g_0 l D s0) (hS : HS z ad Qc N M) (hn : N.cells < 20) : Ct l D s0 y_Md_cell (Cond.code y_Md_cell b_Md_cell 1 (some .int)) rkM [.ref (ad 30 0)] M (fM z ad Qc (some (.int (nI N.cells))) (fun N' => N' = (N.set_code 0).set_cells (N.cells + 1))) := by
  refine Ct.of h0 (by decide +kernel) rfl fun X hX h => ?_
  obtain ⟨p_, l', e_, R_, s_, m_, ar_, be_, me_, c_⟩ := X
  obtain rfl : l' = l := hX
  refine ri_aload_n h d_Md_cell_0 rfl ?_
  refine ri_aload_n h d_Md_cell_1 rfl ?_
  refine ri_get h d_Md_cell_2 fl_Md_111 (by first | assumption | exact hS.mo | exact gup_s) (by rfl) ?_
  refine ri_bipushN h 20 d_Md_cell_5 rfl ?_
  first | refine ri_icmpN_ne h 14 d_Md_cell_7 (by decide) (by omega) (by omega) (fun c_7 => ?_) (fun c_7 => ?_) | refine ri_icmp_ne h 14 d_Md_cell_7 (by decide) (fun c_7 => ?_) (fun c_7 => ?_)
  · first
    | (exfalso; omega)
    | (refine ri_iconstN h 0 d_Md_cell_14 rfl ?_
       refine ri_put h d_Md_cell_15 fl_Md_108 (fun r hr => by cases hr; rfl) (by first | assumption | exact hS.mo | exact gup_s) (by first | rfl | assumption) (by first | rfl | decide | assumption) ?_
       refine ri_gH (hS.p_code _) (fun M hS => ?_)
       refine ri_aload_n h d_Md_cell_18 rfl ?_
       refine ri_get h d_Md_cell_19 fl_Md_108 (by first | assumption | exact hS.mo | exact gup_s) (by rfl) ?_
       first | refine ri_ifN_le h 27 d_Md_cell_22 (by decide) (by omega) (fun c_22 => ?_) (fun c_22 => ?_) | refine ri_if_le h 27 d_Md_cell_22 (by decide) (fun c_22 => ?_) (fun c_22 => ?_)
       · first
         | (exfalso; omega)
         | (refine ri_aload_n h d_Md_cell_27 rfl ?_
            refine ri_dup h d_Md_cell_28 rfl ?_
            refine ri_get h d_Md_cell_29 fl_Md_111 (by first | assumption | exact hS.mo | exact gup_s) (by rfl) ?_
            refine ri_iconstN h 1 d_Md_cell_32 rfl ?_
            first | refine ri_iaddN h d_Md_cell_33 ?_ | refine ri_iadd h d_Md_cell_33 ?_
            refine ri_put h d_Md_cell_34 fl_Md_111 (fun r hr => by cases hr; rfl) (by first | assumption | exact hS.mo | exact gup_s) (by first | rfl | assumption) (by first | rfl | decide | assumption) ?_
            refine ri_gH (hS.p_cells _) (fun M hS => ?_)
            refine ri_aload_n h d_Md_cell_37 rfl ?_
            refine ri_get h d_Md_cell_38 fl_Md_111 (by first | assumption | exact hS.mo | exact gup_s) (by rfl) ?_
            refine ri_iconstN h 1 d_Md_cell_41 rfl ?_
            first | refine ri_isubN h d_Md_cell_42 (by first | omega | exact Nat.le_add_left _ _) ?_ | refine ri_isub h d_Md_cell_42 ?_
            refine ri_ireturn h d_Md_cell_43 (Nat.le_of_ble_eq_true rfl) (Nat.le_of_ble_eq_true rfl) ?_
            exact ⟨rfl, _, hS, rfl⟩)
       · first
         | (exfalso; omega)
         | (refine ri_iconstN h 0 d_Md_cell_25 rfl ?_
            refine ri_ireturn h d_Md_cell_26 (Nat.le_of_ble_eq_true rfl) (Nat.le_of_ble_eq_true rfl) ?_
            exact ⟨rfl, _, hS, rfl⟩))
  · first
    | (exfalso; omega)
    | (refine ri_iconstN h 1 d_Md_cell_10 rfl ?_
       refine ri_goto h 15 d_Md_cell_11 (by decide) ?_
       refine ri_put h d_Md_cell_15 fl_Md_108 (fun r hr => by cases hr; rfl) (by first | assumption | exact hS.mo | exact gup_s) (by first | rfl | assumption) (by first | rfl | decide | assumption) ?_
       refine ri_gH (hS.p_code _) (fun M hS => ?_)
       refine ri_aload_n h d_Md_cell_18 rfl ?_
       refine ri_get h d_Md_cell_19 fl_Md_108 (by first | assumption | exact hS.mo | exact gup_s) (by rfl) ?_
       first | refine ri_ifN_le h 27 d_Md_cell_22 (by decide) (by omega) (fun c_22 => ?_) (fun c_22 => ?_) | refine ri_if_le h 27 d_Md_cell_22 (by decide) (fun c_22 => ?_) (fun c_22 => ?_)
       · first
         | (exfalso; omega)
         | (refine ri_aload_n h d_Md_cell_27 rfl ?_
            refine ri_dup h d_Md_cell_28 rfl ?_
            refine ri_get h d_Md_cell_29 fl_Md_111 (by first | assumption | exact hS.mo | exact gup_s) (by rfl) ?_
            refine ri_iconstN h 1 d_Md_cell_32 rfl ?_
            first | refine ri_iaddN h d_Md_cell_33 ?_ | refine ri_iadd h d_Md_cell_33 ?_
            refine ri_put h d_Md_cell_34 fl_Md_111 (fun r hr => by cases hr; rfl) (by first | assumption | exact hS.mo | exact gup_s) (by first | rfl | assumption) (by first | rfl | decide | assumption) ?_
            refine ri_gH (hS.p_cells _) (fun M hS => ?_)
            refine ri_aload_n h d_Md_cell_37 rfl ?_
            refine ri_get h d_Md_cell_38 fl_Md_111 (by first | assumption | exact hS.mo | exact gup_s) (by rfl) ?_
            refine ri_iconstN h 1 d_Md_cell_41 rfl ?_
            first | refine ri_isubN h d_Md_cell_42 (by first | omega | exact Nat.le_add_left _ _) ?_ | refine ri_isub h d_Md_cell_42 ?_
            refine ri_ireturn h d_Md_cell_43 (Nat.le_of_ble_eq_true rfl) (Nat.le_of_ble_eq_true rfl) ?_
            exact ⟨rfl, _, hS, rfl⟩)
       · first
         | (exfalso; omega)
         | (refine ri_iconstN h 0 d_Md_cell_25 rfl ?_
            refine ri_ireturn h d_Md_cell_26 (Nat.le_of_ble_eq_true rfl) (Nat.le_of_ble_eq_true rfl) ?_
            exact ⟨rfl, _, hS, rfl⟩))
theorem k_mshape (h0 : g_0 l D s0) (hS : HS z ad Qc N M) (hn : N.shapes < 120) {a b : Int32} {w : Int64} {e : Int32} : Ct l D s0 y_Md_shape (Cond.code y_Md_shape b_Md_shape 6 (some .int)) (rk 1 0 0) [.ref (ad 30 0), .int a, .int b, .long w, .int e] M (fM z ad Qc (some (.int (nI N.shapes))) (fun N' => N' = ((((((N.set_i (va_up N.i 3 (va_up (N.i 3) N.shapes a)))).set_i (va_up (va_up N.i 3 (va_up (N.i 3) N.shapes a)) 4 (va_up (N.i 4) N.shapes b))).set_l (va_up N.l 5 (va_up (N.l 5) N.shapes w))).set_i (va_up (va_up (va_up N.i 3 (va_up (N.i 3) N.shapes a)) 4 (va_up (N.i 4) N.shapes b)) 6 (va_up (N.i 6) N.shapes e))).set_i (va_up (va_up (va_up (va_up N.i 3 (va_up (N.i 3) N.shapes a)) 4 (va_up (N.i 4) N.shapes b)) 6 (va_up (N.i 6) N.shapes e)) 7 (va_up (N.i 7) N.shapes 0))).set_shapes (N.shapes + 1))) := by
  refine Ct.of h0 (by decide +kernel) rfl fun X hX h => ?_
  obtain ⟨p_, l', e_, R_, s_, m_, ar_, be_, me_, c_⟩ := X
  obtain rfl : l' = l := hX
  refine ri_aload_n h d_Md_shape_0 rfl ?_
  refine ri_get h d_Md_shape_1 fl_Md_7 (by first | assumption | exact hS.mo | exact gup_s) (by rfl) ?_
  refine ri_aload_n h d_Md_shape_4 rfl ?_
  refine ri_get h d_Md_shape_5 fl_Md_118 (by first | assumption | exact hS.mo | exact gup_s) (by rfl) ?_
  refine ri_iload_n h d_Md_shape_8 rfl ?_
  refine ri_iast h _ d_Md_shape_9 (by first | assumption | exact hS.a3) (by first | rfl | assumption) (by first | assumption | omega) (by first | decide | omega) ?_
  refine ri_gH (hS.set_mi 3 rfl _) (fun M hS => ?_)
  refine ri_aload_n h d_Md_shape_10 rfl ?_
  refine ri_get h d_Md_shape_11 fl_Md_13 (by first | assumption | exact hS.mo | exact gup_s) (by rfl) ?_
  refine ri_aload_n h d_Md_shape_14 rfl ?_
  refine ri_get h d_Md_shape_15 fl_Md_118 (by first | assumption | exact hS.mo | exact gup_s) (by rfl) ?_
  refine ri_iload_n h d_Md_shape_18 rfl ?_
  refine ri_iast h _ d_Md_shape_19 (by first | assumption | exact hS.a4) (by first | rfl | assumption) (by first | assumption | omega) (by first | decide | omega) ?_
  refine ri_gH (hS.set_mi 4 rfl _) (fun M hS => ?_)
  refine ri_aload_n h d_Md_shape_20 rfl ?_
  refine ri_get h d_Md_shape_21 fl_Md_16 (by first | assumption | exact hS.mo | exact gup_s) (by rfl) ?_
  refine ri_aload_n h d_Md_shape_24 rfl ?_
  refine ri_get h d_Md_shape_25 fl_Md_118 (by first | assumption | exact hS.mo | exact gup_s) (by rfl) ?_
  refine ri_lload_n h d_Md_shape_28 rfl ?_
  refine ri_last h _ d_Md_shape_29 (by first | assumption | exact hS.a5) (by first | rfl | assumption) (by first | assumption | omega) (by first | decide | omega) ?_
  refine ri_gH (hS.set_ml 5 rfl _) (fun M hS => ?_)
  refine ri_aload_n h d_Md_shape_30 rfl ?_
  refine ri_get h d_Md_shape_31 fl_Md_20 (by first | assumption | exact hS.mo | exact gup_s) (by rfl) ?_
  refine ri_aload_n h d_Md_shape_34 rfl ?_
  refine ri_get h d_Md_shape_35 fl_Md_118 (by first | assumption | exact hS.mo | exact gup_s) (by rfl) ?_
  refine ri_iload h d_Md_shape_38 rfl ?_
  refine ri_iast h _ d_Md_shape_40 (by first | assumption | exact hS.a6) (by first | rfl | assumption) (by first | assumption | omega) (by first | decide | omega) ?_
  refine ri_gH (hS.set_mi 6 rfl _) (fun M hS => ?_)
  refine ri_aload_n h d_Md_shape_41 rfl ?_
  refine ri_get h d_Md_shape_42 fl_Md_23 (by first | assumption | exact hS.mo | exact gup_s) (by rfl) ?_
  refine ri_aload_n h d_Md_shape_45 rfl ?_
  refine ri_get h d_Md_shape_46 fl_Md_118 (by first | assumption | exact hS.mo | exact gup_s) (by rfl) ?_
  refine ri_iconstN h 0 d_Md_shape_49 rfl ?_
  refine ri_iast h _ d_Md_shape_50 (by first | assumption | exact hS.a7) (by first | rfl | assumption) (by first | assumption | omega) (by first | decide | omega) ?_
  refine ri_gH (hS.set_mi 7 rfl _) (fun M hS => ?_)
  refine ri_aload_n h d_Md_shape_51 rfl ?_
  refine ri_dup h d_Md_shape_52 rfl ?_
  refine ri_get h d_Md_shape_53 fl_Md_118 (by first | assumption | exact hS.mo | exact gup_s) (by rfl) ?_
  refine ri_iconstN h 1 d_Md_shape_56 rfl ?_
  first | refine ri_iaddN h d_Md_shape_57 ?_ | refine ri_iadd h d_Md_shape_57 ?_
  refine ri_put h d_Md_shape_58 fl_Md_118 (fun r hr => by cases hr; rfl) (by first | assumption | exact hS.mo | exact gup_s) (by first | rfl | assumption) (by first | rfl | decide | assumption) ?_
  refine ri_gH (hS.p_shapes _) (fun M hS => ?_)
  refine ri_aload_n h d_Md_shape_61 rfl ?_
  refine ri_get h d_Md_shape_62 fl_Md_118 (by first | assumption | exact hS.mo | exact gup_s) (by rfl) ?_
  refine ri_iconstN h 1 d_Md_shape_65 rfl ?_
  first | refine ri_isubN h d_Md_shape_66 (by first | omega | exact Nat.le_add_left _ _) ?_ | refine ri_isub h d_Md_shape_66 ?_
  refine ri_ireturn h d_Md_shape_67 (Nat.le_of_ble_eq_true rfl) (Nat.le_of_ble_eq_true rfl) ?_
  exact ⟨rfl, _, hS, rfl⟩
end MC
