/-! What the model's arrays hold of the class's state; the model's small methods -/
def MR (Q : CS) (N : MS) : Prop := N.layers = Q.L ∧ N.cells = Q.nC ∧ N.shapes = Q.nS ∧ N.places = Q.nP ∧
  (∀ s, s < Q.nS → N.i 3 s = nI (Q.sh s).cell ∧ N.i 4 s = (Q.sh s).layer ∧ N.l 5 s = (Q.sh s).w ∧ N.i 6 s = (Q.sh s).ends ∧ N.i 7 s = nI (Q.sh s).cnt ∧ N.i 8 s = (Q.sh s).drop ∧ ∀ k, k < (Q.sh s).cnt → N.l 9 (24 * s + k) = (Q.sh s).xs k ∧ N.l 10 (24 * s + k) = (Q.sh s).ys k) ∧
  (∀ s, Q.nS ≤ s → N.i 8 s = 0) ∧
  (∀ p, p < Q.nP → N.i 12 p = nI (Q.pl p).cell ∧ N.i 13 p = nI (Q.pl p).of ∧ N.l 14 p = (Q.pl p).x ∧ N.l 15 p = (Q.pl p).y ∧ N.i 16 p = nI (Q.pl p).turn ∧ N.i 17 p = nI (Q.pl p).cols ∧ N.i 18 p = nI (Q.pl p).rows ∧ N.l 19 p = (Q.pl p).dx ∧ N.l 20 p = (Q.pl p).dy) ∧
  N.hand = (Q.fl 0).cnt ∧ ∀ i, i < (Q.fl 0).cnt → N.i 25 (6000 + i) = nI ((Q.fl 0).cor i) ∧ ∀ k, k < (Q.fl 0).cor i → N.l 22 (144000 + 24 * i + k) = FX Q.sh (Q.fl 0) i k ∧ N.l 23 (144000 + 24 * i + k) = FY Q.sh (Q.fl 0) i k
section MRs
variable {Q : CS} {N : MS} {s p k : Nat}
theorem MR.la (h : MR Q N) : N.layers = Q.L := h.1
theorem MR.nc (h : MR Q N) : N.cells = Q.nC := h.2.1
theorem MR.ns (h : MR Q N) : N.shapes = Q.nS := h.2.2.1
theorem MR.np (h : MR Q N) : N.places = Q.nP := h.2.2.2.1
theorem MR.shs (h : MR Q N) (hs : s < Q.nS) : N.i 3 s = nI (Q.sh s).cell ∧ N.i 4 s = (Q.sh s).layer ∧ N.l 5 s = (Q.sh s).w ∧ N.i 6 s = (Q.sh s).ends ∧ N.i 7 s = nI (Q.sh s).cnt ∧ N.i 8 s = (Q.sh s).drop ∧ ∀ k, k < (Q.sh s).cnt → N.l 9 (24 * s + k) = (Q.sh s).xs k ∧ N.l 10 (24 * s + k) = (Q.sh s).ys k := h.2.2.2.2.1 s hs
theorem MR.i3 (h : MR Q N) (hs : s < Q.nS) : N.i 3 s = nI (Q.sh s).cell := (h.shs hs).1
theorem MR.i4 (h : MR Q N) (hs : s < Q.nS) : N.i 4 s = (Q.sh s).layer := (h.shs hs).2.1
theorem MR.i5 (h : MR Q N) (hs : s < Q.nS) : N.l 5 s = (Q.sh s).w := (h.shs hs).2.2.1
theorem MR.i6 (h : MR Q N) (hs : s < Q.nS) : N.i 6 s = (Q.sh s).ends := (h.shs hs).2.2.2.1
theorem MR.i7 (h : MR Q N) (hs : s < Q.nS) : N.i 7 s = nI (Q.sh s).cnt := (h.shs hs).2.2.2.2.1
theorem MR.i8 (h : MR Q N) (hs : s < Q.nS) : N.i 8 s = (Q.sh s).drop := (h.shs hs).2.2.2.2.2.1
theorem MR.i9 (h : MR Q N) (hs : s < Q.nS) (hk : k < (Q.sh s).cnt) : N.l 9 (24 * s + k) = (Q.sh s).xs k := ((h.shs hs).2.2.2.2.2.2 k hk).1
theorem MR.i10 (h : MR Q N) (hs : s < Q.nS) (hk : k < (Q.sh s).cnt) : N.l 10 (24 * s + k) = (Q.sh s).ys k := ((h.shs hs).2.2.2.2.2.2 k hk).2
theorem MR.g8 (h : MR Q N) (hs : Q.nS ≤ s) : N.i 8 s = 0 := h.2.2.2.2.2.1 s hs
theorem MR.pls (h : MR Q N) (hp : p < Q.nP) : N.i 12 p = nI (Q.pl p).cell ∧ N.i 13 p = nI (Q.pl p).of ∧ N.l 14 p = (Q.pl p).x ∧ N.l 15 p = (Q.pl p).y ∧ N.i 16 p = nI (Q.pl p).turn ∧ N.i 17 p = nI (Q.pl p).cols ∧ N.i 18 p = nI (Q.pl p).rows ∧ N.l 19 p = (Q.pl p).dx ∧ N.l 20 p = (Q.pl p).dy := h.2.2.2.2.2.2.1 p hp
theorem MR.i12 (h : MR Q N) (hp : p < Q.nP) : N.i 12 p = nI (Q.pl p).cell := (h.pls hp).1
theorem MR.i13 (h : MR Q N) (hp : p < Q.nP) : N.i 13 p = nI (Q.pl p).of := (h.pls hp).2.1
theorem MR.i14 (h : MR Q N) (hp : p < Q.nP) : N.l 14 p = (Q.pl p).x := (h.pls hp).2.2.1
theorem MR.i15 (h : MR Q N) (hp : p < Q.nP) : N.l 15 p = (Q.pl p).y := (h.pls hp).2.2.2.1
theorem MR.i16 (h : MR Q N) (hp : p < Q.nP) : N.i 16 p = nI (Q.pl p).turn := (h.pls hp).2.2.2.2.1
theorem MR.i17 (h : MR Q N) (hp : p < Q.nP) : N.i 17 p = nI (Q.pl p).cols := (h.pls hp).2.2.2.2.2.1
theorem MR.i18 (h : MR Q N) (hp : p < Q.nP) : N.i 18 p = nI (Q.pl p).rows := (h.pls hp).2.2.2.2.2.2.1
theorem MR.i19 (h : MR Q N) (hp : p < Q.nP) : N.l 19 p = (Q.pl p).dx := (h.pls hp).2.2.2.2.2.2.2.1
theorem MR.i20 (h : MR Q N) (hp : p < Q.nP) : N.l 20 p = (Q.pl p).dy := (h.pls hp).2.2.2.2.2.2.2.2
theorem MR.ha (h : MR Q N) : N.hand = (Q.fl 0).cnt := h.2.2.2.2.2.2.2.1
theorem MR.i25 (h : MR Q N) {i : Nat} (hi : i < (Q.fl 0).cnt) : N.i 25 (6000 + i) = nI ((Q.fl 0).cor i) := (h.2.2.2.2.2.2.2.2 i hi).1
theorem MR.i22 (h : MR Q N) {i : Nat} (hi : i < (Q.fl 0).cnt) (hk : k < (Q.fl 0).cor i) : N.l 22 (144000 + 24 * i + k) = FX Q.sh (Q.fl 0) i k := ((h.2.2.2.2.2.2.2.2 i hi).2 k hk).1
theorem MR.i23 (h : MR Q N) {i : Nat} (hi : i < (Q.fl 0).cnt) (hk : k < (Q.fl 0).cor i) : N.l 23 (144000 + 24 * i + k) = FY Q.sh (Q.fl 0) i k := ((h.2.2.2.2.2.2.2.2 i hi).2 k hk).2
end MRs
section MC
variable {l : Launch} {D : gD} {s0 : State} {M : gH} {z : Nat} {ad : gA} {Q Qc : CS} {N : MS} {c i : Nat}
/-- the model's methods: what they answer, and the state behind -/
abbrev fM (z : Nat) (ad : gA) (Q : CS) (v : Option Value) (P : MS → Prop) : gR → gH → Prop := fS v (fun M' => ∃ N', HS z ad Q N' M' ∧ P N')
theorem k_far (h0 : g_0 l D s0) {v : Int64} : Ct l D s0 y_Md_isFar (Cond.code y_Md_isFar b_Md_isFar 2 (some .boolean)) (rk 0 0 0) [.long v] M (fR (some (.int (bI (¬ nearB v)))) M) := by
  refine Ct.of h0 (by decide +kernel) rfl fun X hX h => ?_
  obtain ⟨p_, l', e_, R_, s_, m_, ar_, be_, me_, c_⟩ := X
  obtain rfl : l' = l := hX
  refine ri_lload_n h d_Md_isFar_0 rfl ?_
  refine ri_ldc2 h (-1000000) d_Md_isFar_1 kl_Md_114 ?_
  refine ri_lcmp_lt h 16 d_Md_isFar_4 d_Md_isFar_5 (by decide) (fun c_4 => ?_) (fun c_4 => ?_)
  · refine ri_iconst h 1 d_Md_isFar_16 rfl ?_
    refine ri_goto h 21 d_Md_isFar_17 (by decide) ?_
    refine ri_zreturn h d_Md_isFar_21 (Nat.le_of_ble_eq_true rfl) (Nat.le_of_ble_eq_true rfl) (by first | rfl | assumption) ?_
    first | exact ⟨congrArg (fun x => Sum.inl (some (Value.int x))) (bI_1 (show ¬ nearB v from fun q => absurd c_4 (Int64.not_lt.mpr q.1))).symm, rfl⟩ | exact ⟨congrArg (fun x => Sum.inl (some (Value.int x))) (bI_0 (show ¬ ¬ nearB v from fun q => q ⟨Int64.not_lt.mp c_4, c_12⟩)).symm, rfl⟩ | exact ⟨congrArg (fun x => Sum.inl (some (Value.int x))) (bI_1 (show ¬ nearB v from fun q => c_12 q.2)).symm, rfl⟩
  · refine ri_lload_n h d_Md_isFar_8 rfl ?_
    refine ri_ldc2 h 1000000 d_Md_isFar_9 kl_Md_116 ?_
    refine ri_lcmp_le h 20 d_Md_isFar_12 d_Md_isFar_13 (by decide) (fun c_12 => ?_) (fun c_12 => ?_)
    · refine ri_iconst h 0 d_Md_isFar_20 rfl ?_
      refine ri_zreturn h d_Md_isFar_21 (Nat.le_of_ble_eq_true rfl) (Nat.le_of_ble_eq_true rfl) (by first | rfl | assumption) ?_
      first | exact ⟨congrArg (fun x => Sum.inl (some (Value.int x))) (bI_1 (show ¬ nearB v from fun q => absurd c_4 (Int64.not_lt.mpr q.1))).symm, rfl⟩ | exact ⟨congrArg (fun x => Sum.inl (some (Value.int x))) (bI_0 (show ¬ ¬ nearB v from fun q => q ⟨Int64.not_lt.mp c_4, c_12⟩)).symm, rfl⟩ | exact ⟨congrArg (fun x => Sum.inl (some (Value.int x))) (bI_1 (show ¬ nearB v from fun q => c_12 q.2)).symm, rfl⟩
    · refine ri_iconst h 1 d_Md_isFar_16 rfl ?_
      refine ri_goto h 21 d_Md_isFar_17 (by decide) ?_
      refine ri_zreturn h d_Md_isFar_21 (Nat.le_of_ble_eq_true rfl) (Nat.le_of_ble_eq_true rfl) (by first | rfl | assumption) ?_
      first | exact ⟨congrArg (fun x => Sum.inl (some (Value.int x))) (bI_1 (show ¬ nearB v from fun q => absurd c_4 (Int64.not_lt.mpr q.1))).symm, rfl⟩ | exact ⟨congrArg (fun x => Sum.inl (some (Value.int x))) (bI_0 (show ¬ ¬ nearB v from fun q => q ⟨Int64.not_lt.mp c_4, c_12⟩)).symm, rfl⟩ | exact ⟨congrArg (fun x => Sum.inl (some (Value.int x))) (bI_1 (show ¬ nearB v from fun q => c_12 q.2)).symm, rfl⟩
theorem k_isCell (h0 : g_0 l D s0) (hS : HS z ad Qc N M) (hm : MR Q N) (hW : WB Q) {v : Int32} : Ct l D s0 y_Md_isCell (Cond.code y_Md_isCell b_Md_isCell 2 (some .boolean)) (rk 0 0 0) [.ref (ad 30 0), .int v] M (fR (some (.int (bI (∃ c, c < Q.nC ∧ v = nI c)))) M) := by
  have hb : N.cells < 2 ^ 31 := by rw [hm.nc]; have := hW.1; omega
  rw [← hm.nc]
  refine Ct.of h0 (by decide +kernel) rfl fun X hX h => ?_
  obtain ⟨p_, l', e_, R_, s_, m_, ar_, be_, me_, c_⟩ := X
  obtain rfl : l' = l := hX
  refine ri_iload_n h d_Md_isCell_0 rfl ?_
  refine ri_if_lt h 16 d_Md_isCell_1 (by decide) (fun c_1 => ?_) (fun c_1 => ?_)
  · refine ri_iconst h 0 d_Md_isCell_16 rfl ?_
    refine ri_zreturn h d_Md_isCell_17 (Nat.le_of_ble_eq_true rfl) (Nat.le_of_ble_eq_true rfl) (by first | rfl | assumption) ?_
    first | exact ⟨congrArg (fun x => Sum.inl (some (Value.int x))) (bI_0 (fun q => (ix_0 hb q).1 c_1)).symm, rfl⟩ | exact ⟨congrArg (fun x => Sum.inl (some (Value.int x))) (bI_0 (fun q => absurd (ix_0 hb q).2 (Int32.not_lt.mpr c_9))).symm, rfl⟩ | exact ⟨congrArg (fun x => Sum.inl (some (Value.int x))) (bI_1 (ix_of hb c_1 (Int32.not_le.mp c_9))).symm, rfl⟩
  · refine ri_iload_n h d_Md_isCell_4 rfl ?_
    refine ri_aload_n h d_Md_isCell_5 rfl ?_
    refine ri_get h d_Md_isCell_6 fl_Md_111 (by first | assumption | exact hS.mo | exact gup_s) (by rfl) ?_
    refine ri_icmp_ge h 16 d_Md_isCell_9 (by decide) (fun c_9 => ?_) (fun c_9 => ?_)
    · refine ri_iconst h 0 d_Md_isCell_16 rfl ?_
      refine ri_zreturn h d_Md_isCell_17 (Nat.le_of_ble_eq_true rfl) (Nat.le_of_ble_eq_true rfl) (by first | rfl | assumption) ?_
      first | exact ⟨congrArg (fun x => Sum.inl (some (Value.int x))) (bI_0 (fun q => (ix_0 hb q).1 c_1)).symm, rfl⟩ | exact ⟨congrArg (fun x => Sum.inl (some (Value.int x))) (bI_0 (fun q => absurd (ix_0 hb q).2 (Int32.not_lt.mpr c_9))).symm, rfl⟩ | exact ⟨congrArg (fun x => Sum.inl (some (Value.int x))) (bI_1 (ix_of hb c_1 (Int32.not_le.mp c_9))).symm, rfl⟩
    · refine ri_iconst h 1 d_Md_isCell_12 rfl ?_
      refine ri_goto h 17 d_Md_isCell_13 (by decide) ?_
      refine ri_zreturn h d_Md_isCell_17 (Nat.le_of_ble_eq_true rfl) (Nat.le_of_ble_eq_true rfl) (by first | rfl | assumption) ?_
      first | exact ⟨congrArg (fun x => Sum.inl (some (Value.int x))) (bI_0 (fun q => (ix_0 hb q).1 c_1)).symm, rfl⟩ | exact ⟨congrArg (fun x => Sum.inl (some (Value.int x))) (bI_0 (fun q => absurd (ix_0 hb q).2 (Int32.not_lt.mpr c_9))).symm, rfl⟩ | exact ⟨congrArg (fun x => Sum.inl (some (Value.int x))) (bI_1 (ix_of hb c_1 (Int32.not_le.mp c_9))).symm, rfl⟩
theorem k_isLayer (h0 : g_0 l D s0) (hS : HS z ad Qc N M) (hm : MR Q N) {v : Int32} : Ct l D s0 y_Md_isLayer (Cond.code y_Md_isLayer b_Md_isLayer 2 (some .boolean)) (rk 0 0 0) [.ref (ad 30 0), .int v] M (fR (some (.int (bI (¬ v < 0 ∧ v < Q.L)))) M) := by
  rw [← hm.la]
  refine Ct.of h0 (by decide +kernel) rfl fun X hX h => ?_
  obtain ⟨p_, l', e_, R_, s_, m_, ar_, be_, me_, c_⟩ := X
  obtain rfl : l' = l := hX
  refine ri_iload_n h d_Md_isLayer_0 rfl ?_
  refine ri_if_lt h 16 d_Md_isLayer_1 (by decide) (fun c_1 => ?_) (fun c_1 => ?_)
  · refine ri_iconst h 0 d_Md_isLayer_16 rfl ?_
    refine ri_zreturn h d_Md_isLayer_17 (Nat.le_of_ble_eq_true rfl) (Nat.le_of_ble_eq_true rfl) (by first | rfl | assumption) ?_
    first | exact ⟨congrArg (fun x => Sum.inl (some (Value.int x))) (bI_0 (show ¬ (¬ v < 0 ∧ v < N.layers) from fun q => q.1 c_1)).symm, rfl⟩ | exact ⟨congrArg (fun x => Sum.inl (some (Value.int x))) (bI_0 (show ¬ (¬ v < 0 ∧ v < N.layers) from fun q => absurd q.2 (Int32.not_lt.mpr c_9))).symm, rfl⟩ | exact ⟨congrArg (fun x => Sum.inl (some (Value.int x))) (bI_1 (show ¬ v < 0 ∧ v < N.layers from ⟨c_1, Int32.not_le.mp c_9⟩)).symm, rfl⟩
  · refine ri_iload_n h d_Md_isLayer_4 rfl ?_
    refine ri_aload_n h d_Md_isLayer_5 rfl ?_
    refine ri_get h d_Md_isLayer_6 fl_Md_104 (by first | assumption | exact hS.mo | exact gup_s) (by rfl) ?_
    refine ri_icmp_ge h 16 d_Md_isLayer_9 (by decide) (fun c_9 => ?_) (fun c_9 => ?_)
    · refine ri_iconst h 0 d_Md_isLayer_16 rfl ?_
      refine ri_zreturn h d_Md_isLayer_17 (Nat.le_of_ble_eq_true rfl) (Nat.le_of_ble_eq_true rfl) (by first | rfl | assumption) ?_
      first | exact ⟨congrArg (fun x => Sum.inl (some (Value.int x))) (bI_0 (show ¬ (¬ v < 0 ∧ v < N.layers) from fun q => q.1 c_1)).symm, rfl⟩ | exact ⟨congrArg (fun x => Sum.inl (some (Value.int x))) (bI_0 (show ¬ (¬ v < 0 ∧ v < N.layers) from fun q => absurd q.2 (Int32.not_lt.mpr c_9))).symm, rfl⟩ | exact ⟨congrArg (fun x => Sum.inl (some (Value.int x))) (bI_1 (show ¬ v < 0 ∧ v < N.layers from ⟨c_1, Int32.not_le.mp c_9⟩)).symm, rfl⟩
    · refine ri_iconst h 1 d_Md_isLayer_12 rfl ?_
      refine ri_goto h 17 d_Md_isLayer_13 (by decide) ?_
      refine ri_zreturn h d_Md_isLayer_17 (Nat.le_of_ble_eq_true rfl) (Nat.le_of_ble_eq_true rfl) (by first | rfl | assumption) ?_
      first | exact ⟨congrArg (fun x => Sum.inl (some (Value.int x))) (bI_0 (show ¬ (¬ v < 0 ∧ v < N.layers) from fun q => q.1 c_1)).symm, rfl⟩ | exact ⟨congrArg (fun x => Sum.inl (some (Value.int x))) (bI_0 (show ¬ (¬ v < 0 ∧ v < N.layers) from fun q => absurd q.2 (Int32.not_lt.mpr c_9))).symm, rfl⟩ | exact ⟨congrArg (fun x => Sum.inl (some (Value.int x))) (bI_1 (show ¬ v < 0 ∧ v < N.layers from ⟨c_1, Int32.not_le.mp c_9⟩)).symm, rfl⟩
/-- what the model's methods leave alone -/
abbrev Nk (k : Nat) (N N' : MS) : Prop := N'.code = k ∧ N'.out = N.out
theorem k_mcell_no (h0 : g_0 l D s0) (hS : HS z ad Qc N M) (hm : MR Q N) (hn : Q.nC = 20) : Ct l D s0 y_Md_cell (Cond.code y_Md_cell b_Md_cell 1 (some .int)) rkM [.ref (ad 30 0)] M (fM z ad Qc (some (.int 0)) (fun N' => N' = N.set_code 1)) := by
  have hn := hm.nc.trans hn
  refine Ct.of h0 (by decide +kernel) rfl fun X hX h => ?_
  obtain ⟨p_, l', e_, R_, s_, m_, ar_, be_, me_, c_⟩ := X
  obtain rfl : l' = l := hX
  refine ri_aload_n h d_Md_cell_0 rfl ?_
  refine ri_aload_n h d_Md_cell_1 rfl ?_
  refine ri_get h d_Md_cell_2 fl_Md_111 (by first | assumption | exact hS.mo | exact gup_s) (by rfl) ?_
  refine ri_bipushN h 20 d_Md_cell_5 rfl ?_
  first | refine ri_icmpN_ne h 14 d_Md_cell_7 (by decide) (by omega) (by omega) (fun c_7 => ?_) (fun c_7 => ?_) | refine ri_icmp_ne h 14 d_Md_cell_7 (by decide) (fun c_7 => ?_) (fun c_7 => ?_)
  · first
    | (exfalso; first | exact absurd c_7 (by decide) | omega)
    | (refine ri_iconstN h 0 d_Md_cell_14 rfl ?_
       refine ri_pm_code h d_Md_cell_15 fl_Md_108 hS (fun M hS => ?_)
       refine ri_aload_n h d_Md_cell_18 rfl ?_
       refine ri_get h d_Md_cell_19 fl_Md_108 (by first | assumption | exact hS.mo | exact gup_s) (by rfl) ?_
       try dsimp only [MS.code, MS.set_code]
       first | refine ri_ifN_le h 27 d_Md_cell_22 (by decide) (by omega) (fun c_22 => ?_) (fun c_22 => ?_) | refine ri_if_le h 27 d_Md_cell_22 (by decide) (fun c_22 => ?_) (fun c_22 => ?_)
       · first
         | (exfalso; first | exact absurd c_22 (by decide) | omega)
         | (refine ri_aload_n h d_Md_cell_27 rfl ?_
            refine ri_dup h d_Md_cell_28 rfl ?_
            refine ri_get h d_Md_cell_29 fl_Md_111 (by first | assumption | exact hS.mo | exact gup_s) (by rfl) ?_
            refine ri_iconstN h 1 d_Md_cell_32 rfl ?_
            first | refine ri_iaddN h d_Md_cell_33 ?_ | refine ri_iadd h d_Md_cell_33 ?_
            refine ri_pm_cells h d_Md_cell_34 fl_Md_111 hS (fun M hS => ?_)
            refine ri_aload_n h d_Md_cell_37 rfl ?_
            refine ri_get h d_Md_cell_38 fl_Md_111 (by first | assumption | exact hS.mo | exact gup_s) (by rfl) ?_
            refine ri_iconstN h 1 d_Md_cell_41 rfl ?_
            first | refine ri_isubN h d_Md_cell_42 (by first | omega | exact Nat.le_add_left _ _) ?_ | refine ri_isub h d_Md_cell_42 ?_
            refine ri_ireturn h d_Md_cell_43 (Nat.le_of_ble_eq_true rfl) (Nat.le_of_ble_eq_true rfl) ?_
            exact ⟨rfl, _, hS, rfl⟩)
       · first
         | (exfalso; first | exact absurd c_22 (by decide) | omega)
         | (refine ri_iconstN h 0 d_Md_cell_25 rfl ?_
            refine ri_ireturn h d_Md_cell_26 (Nat.le_of_ble_eq_true rfl) (Nat.le_of_ble_eq_true rfl) ?_
            exact ⟨rfl, _, hS, rfl⟩))
  · first
    | (exfalso; first | exact absurd c_7 (by decide) | omega)
    | (refine ri_iconstN h 1 d_Md_cell_10 rfl ?_
       refine ri_goto h 15 d_Md_cell_11 (by decide) ?_
       refine ri_pm_code h d_Md_cell_15 fl_Md_108 hS (fun M hS => ?_)
       refine ri_aload_n h d_Md_cell_18 rfl ?_
       refine ri_get h d_Md_cell_19 fl_Md_108 (by first | assumption | exact hS.mo | exact gup_s) (by rfl) ?_
       try dsimp only [MS.code, MS.set_code]
       first | refine ri_ifN_le h 27 d_Md_cell_22 (by decide) (by omega) (fun c_22 => ?_) (fun c_22 => ?_) | refine ri_if_le h 27 d_Md_cell_22 (by decide) (fun c_22 => ?_) (fun c_22 => ?_)
       · first
         | (exfalso; first | exact absurd c_22 (by decide) | omega)
         | (refine ri_aload_n h d_Md_cell_27 rfl ?_
            refine ri_dup h d_Md_cell_28 rfl ?_
            refine ri_get h d_Md_cell_29 fl_Md_111 (by first | assumption | exact hS.mo | exact gup_s) (by rfl) ?_
            refine ri_iconstN h 1 d_Md_cell_32 rfl ?_
            first | refine ri_iaddN h d_Md_cell_33 ?_ | refine ri_iadd h d_Md_cell_33 ?_
            refine ri_pm_cells h d_Md_cell_34 fl_Md_111 hS (fun M hS => ?_)
            refine ri_aload_n h d_Md_cell_37 rfl ?_
            refine ri_get h d_Md_cell_38 fl_Md_111 (by first | assumption | exact hS.mo | exact gup_s) (by rfl) ?_
            refine ri_iconstN h 1 d_Md_cell_41 rfl ?_
            first | refine ri_isubN h d_Md_cell_42 (by first | omega | exact Nat.le_add_left _ _) ?_ | refine ri_isub h d_Md_cell_42 ?_
            refine ri_ireturn h d_Md_cell_43 (Nat.le_of_ble_eq_true rfl) (Nat.le_of_ble_eq_true rfl) ?_
            exact ⟨rfl, _, hS, rfl⟩)
       · first
         | (exfalso; first | exact absurd c_22 (by decide) | omega)
         | (refine ri_iconstN h 0 d_Md_cell_25 rfl ?_
            refine ri_ireturn h d_Md_cell_26 (Nat.le_of_ble_eq_true rfl) (Nat.le_of_ble_eq_true rfl) ?_
            exact ⟨rfl, _, hS, rfl⟩))
theorem k_mcell_ok (h0 : g_0 l D s0) (hS : HS z ad Qc N M) (hm : MR Q N) (hn : Q.nC < 20) : Ct l D s0 y_Md_cell (Cond.code y_Md_cell b_Md_cell 1 (some .int)) rkM [.ref (ad 30 0)] M (fM z ad Qc (some (.int (nI Q.nC))) (fun N' => N' = (N.set_code 0).set_cells (N.cells + 1))) := by
  rw [← hm.nc] at hn ⊢
  refine Ct.of h0 (by decide +kernel) rfl fun X hX h => ?_
  obtain ⟨p_, l', e_, R_, s_, m_, ar_, be_, me_, c_⟩ := X
  obtain rfl : l' = l := hX
  refine ri_aload_n h d_Md_cell_0 rfl ?_
  refine ri_aload_n h d_Md_cell_1 rfl ?_
  refine ri_get h d_Md_cell_2 fl_Md_111 (by first | assumption | exact hS.mo | exact gup_s) (by rfl) ?_
  refine ri_bipushN h 20 d_Md_cell_5 rfl ?_
  first | refine ri_icmpN_ne h 14 d_Md_cell_7 (by decide) (by omega) (by omega) (fun c_7 => ?_) (fun c_7 => ?_) | refine ri_icmp_ne h 14 d_Md_cell_7 (by decide) (fun c_7 => ?_) (fun c_7 => ?_)
  · first
    | (exfalso; first | exact absurd c_7 (by decide) | omega)
    | (refine ri_iconstN h 0 d_Md_cell_14 rfl ?_
       refine ri_pm_code h d_Md_cell_15 fl_Md_108 hS (fun M hS => ?_)
       refine ri_aload_n h d_Md_cell_18 rfl ?_
       refine ri_get h d_Md_cell_19 fl_Md_108 (by first | assumption | exact hS.mo | exact gup_s) (by rfl) ?_
       try dsimp only [MS.code, MS.set_code]
       first | refine ri_ifN_le h 27 d_Md_cell_22 (by decide) (by omega) (fun c_22 => ?_) (fun c_22 => ?_) | refine ri_if_le h 27 d_Md_cell_22 (by decide) (fun c_22 => ?_) (fun c_22 => ?_)
       · first
         | (exfalso; first | exact absurd c_22 (by decide) | omega)
         | (refine ri_aload_n h d_Md_cell_27 rfl ?_
            refine ri_dup h d_Md_cell_28 rfl ?_
            refine ri_get h d_Md_cell_29 fl_Md_111 (by first | assumption | exact hS.mo | exact gup_s) (by rfl) ?_
            refine ri_iconstN h 1 d_Md_cell_32 rfl ?_
            first | refine ri_iaddN h d_Md_cell_33 ?_ | refine ri_iadd h d_Md_cell_33 ?_
            refine ri_pm_cells h d_Md_cell_34 fl_Md_111 hS (fun M hS => ?_)
            refine ri_aload_n h d_Md_cell_37 rfl ?_
            refine ri_get h d_Md_cell_38 fl_Md_111 (by first | assumption | exact hS.mo | exact gup_s) (by rfl) ?_
            refine ri_iconstN h 1 d_Md_cell_41 rfl ?_
            first | refine ri_isubN h d_Md_cell_42 (by first | omega | exact Nat.le_add_left _ _) ?_ | refine ri_isub h d_Md_cell_42 ?_
            refine ri_ireturn h d_Md_cell_43 (Nat.le_of_ble_eq_true rfl) (Nat.le_of_ble_eq_true rfl) ?_
            exact ⟨rfl, _, hS, rfl⟩)
       · first
         | (exfalso; first | exact absurd c_22 (by decide) | omega)
         | (refine ri_iconstN h 0 d_Md_cell_25 rfl ?_
            refine ri_ireturn h d_Md_cell_26 (Nat.le_of_ble_eq_true rfl) (Nat.le_of_ble_eq_true rfl) ?_
            exact ⟨rfl, _, hS, rfl⟩))
  · first
    | (exfalso; first | exact absurd c_7 (by decide) | omega)
    | (refine ri_iconstN h 1 d_Md_cell_10 rfl ?_
       refine ri_goto h 15 d_Md_cell_11 (by decide) ?_
       refine ri_pm_code h d_Md_cell_15 fl_Md_108 hS (fun M hS => ?_)
       refine ri_aload_n h d_Md_cell_18 rfl ?_
       refine ri_get h d_Md_cell_19 fl_Md_108 (by first | assumption | exact hS.mo | exact gup_s) (by rfl) ?_
       try dsimp only [MS.code, MS.set_code]
       first | refine ri_ifN_le h 27 d_Md_cell_22 (by decide) (by omega) (fun c_22 => ?_) (fun c_22 => ?_) | refine ri_if_le h 27 d_Md_cell_22 (by decide) (fun c_22 => ?_) (fun c_22 => ?_)
       · first
         | (exfalso; first | exact absurd c_22 (by decide) | omega)
         | (refine ri_aload_n h d_Md_cell_27 rfl ?_
            refine ri_dup h d_Md_cell_28 rfl ?_
            refine ri_get h d_Md_cell_29 fl_Md_111 (by first | assumption | exact hS.mo | exact gup_s) (by rfl) ?_
            refine ri_iconstN h 1 d_Md_cell_32 rfl ?_
            first | refine ri_iaddN h d_Md_cell_33 ?_ | refine ri_iadd h d_Md_cell_33 ?_
            refine ri_pm_cells h d_Md_cell_34 fl_Md_111 hS (fun M hS => ?_)
            refine ri_aload_n h d_Md_cell_37 rfl ?_
            refine ri_get h d_Md_cell_38 fl_Md_111 (by first | assumption | exact hS.mo | exact gup_s) (by rfl) ?_
            refine ri_iconstN h 1 d_Md_cell_41 rfl ?_
            first | refine ri_isubN h d_Md_cell_42 (by first | omega | exact Nat.le_add_left _ _) ?_ | refine ri_isub h d_Md_cell_42 ?_
            refine ri_ireturn h d_Md_cell_43 (Nat.le_of_ble_eq_true rfl) (Nat.le_of_ble_eq_true rfl) ?_
            exact ⟨rfl, _, hS, rfl⟩)
       · first
         | (exfalso; first | exact absurd c_22 (by decide) | omega)
         | (refine ri_iconstN h 0 d_Md_cell_25 rfl ?_
            refine ri_ireturn h d_Md_cell_26 (Nat.le_of_ble_eq_true rfl) (Nat.le_of_ble_eq_true rfl) ?_
            exact ⟨rfl, _, hS, rfl⟩))
abbrev shN (N : MS) (a b : Int32) (w : Int64) (e : Int32) : MS := (((((N.set_i (va_up N.i 3 (va_up (N.i 3) N.shapes a))).set_i (va_up (va_up N.i 3 (va_up (N.i 3) N.shapes a)) 4 (va_up (N.i 4) N.shapes b))).set_l (va_up N.l 5 (va_up (N.l 5) N.shapes w))).set_i (va_up (va_up (va_up N.i 3 (va_up (N.i 3) N.shapes a)) 4 (va_up (N.i 4) N.shapes b)) 6 (va_up (N.i 6) N.shapes e))).set_i (va_up (va_up (va_up (va_up N.i 3 (va_up (N.i 3) N.shapes a)) 4 (va_up (N.i 4) N.shapes b)) 6 (va_up (N.i 6) N.shapes e)) 7 (va_up (N.i 7) N.shapes 0))).set_shapes (N.shapes + 1)
theorem MR.shape (hm : MR Q N) (hF : WFl Q.nS Q.sh (Q.fl 0)) (k : Nat) (c : Nat) (v : Int32) (w : Int64) (e : Int32) : MR (Q.addS c (r0S c v w e)) (shN (N.set_code k) (nI c) v w e) := by
  have hns := hm.ns
  refine ⟨hm.la, hm.nc, congrArg (· + 1) hns, hm.np, ?_, ?_, hm.2.2.2.2.2.2.1, hm.ha, ?_⟩
  · intro s hs
    show va_up (N.i 3) N.shapes (nI c) s = nI (va_up Q.sh Q.nS (r0S c v w e) s).cell ∧ va_up (N.i 4) N.shapes v s = (va_up Q.sh Q.nS (r0S c v w e) s).layer ∧ va_up (N.l 5) N.shapes w s = (va_up Q.sh Q.nS (r0S c v w e) s).w ∧ va_up (N.i 6) N.shapes e s = (va_up Q.sh Q.nS (r0S c v w e) s).ends ∧ va_up (N.i 7) N.shapes 0 s = nI (va_up Q.sh Q.nS (r0S c v w e) s).cnt ∧ N.i 8 s = (va_up Q.sh Q.nS (r0S c v w e) s).drop ∧ ∀ k, k < (va_up Q.sh Q.nS (r0S c v w e) s).cnt → N.l 9 (24 * s + k) = (va_up Q.sh Q.nS (r0S c v w e) s).xs k ∧ N.l 10 (24 * s + k) = (va_up Q.sh Q.nS (r0S c v w e) s).ys k
    rw [hns]
    by_cases q : s = Q.nS
    · subst q
      simp only [va_up_s]
      exact ⟨trivial, trivial, trivial, trivial, rfl, hm.g8 (Nat.le_refl _), fun k hk => absurd hk (Nat.not_lt_zero k)⟩
    · simp only [va_up_n q]
      exact hm.shs (show s < Q.nS by have : s < Q.nS + 1 := hs; omega)
  · intro s hs
    exact hm.g8 (show Q.nS ≤ s by have : Q.nS + 1 ≤ s := hs; omega)
  · intro i hi
    have f2 := (hF.2 i hi).2.1
    refine ⟨hm.i25 hi, fun k hk => ?_⟩
    have e : va_up Q.sh Q.nS (r0S c v w e) ((Q.fl 0).s i) = Q.sh ((Q.fl 0).s i) := va_up_n (by omega)
    refine ⟨(hm.i22 hi hk).trans ?_, (hm.i23 hi hk).trans ?_⟩
    · show FX Q.sh (Q.fl 0) i k = FX (va_up Q.sh Q.nS _) (Q.fl 0) i k
      unfold FX
      rw [e]
    · show FY Q.sh (Q.fl 0) i k = FY (va_up Q.sh Q.nS _) (Q.fl 0) i k
      unfold FY
      rw [e]
theorem k_mshape (h0 : g_0 l D s0) (hS : HS z ad Qc N M) (hn : N.shapes < 120) {a b : Int32} {w : Int64} {e : Int32} : Ct l D s0 y_Md_shape (Cond.code y_Md_shape b_Md_shape 6 (some .int)) (rk 1 0 0) [.ref (ad 30 0), .int a, .int b, .long w, .int e] M (fM z ad Qc (some (.int (nI N.shapes))) (fun N' => N' = shN N a b w e)) := by
  refine Ct.of h0 (by decide +kernel) rfl fun X hX h => ?_
  obtain ⟨p_, l', e_, R_, s_, m_, ar_, be_, me_, c_⟩ := X
  obtain rfl : l' = l := hX
  refine ri_aload_n h d_Md_shape_0 rfl ?_
  refine ri_get h d_Md_shape_1 fl_Md_7 (by first | assumption | exact hS.mo | exact gup_s) (by rfl) ?_
  refine ri_aload_n h d_Md_shape_4 rfl ?_
  refine ri_get h d_Md_shape_5 fl_Md_118 (by first | assumption | exact hS.mo | exact gup_s) (by rfl) ?_
  refine ri_iload_n h d_Md_shape_8 rfl ?_
  refine ri_iast h _ d_Md_shape_9 (by first | assumption | exact hS.a3) (by first | rfl | assumption) (by first | assumption | omega) (by first | decide | omega) ?_
  refine ri_gH (hS.set_mi 3 rfl _) (fun M hS => ?_)
  refine ri_aload_n h d_Md_shape_10 rfl ?_
  refine ri_get h d_Md_shape_11 fl_Md_13 (by first | assumption | exact hS.mo | exact gup_s) (by rfl) ?_
  refine ri_aload_n h d_Md_shape_14 rfl ?_
  refine ri_get h d_Md_shape_15 fl_Md_118 (by first | assumption | exact hS.mo | exact gup_s) (by rfl) ?_
  refine ri_iload_n h d_Md_shape_18 rfl ?_
  refine ri_iast h _ d_Md_shape_19 (by first | assumption | exact hS.a4) (by first | rfl | assumption) (by first | assumption | omega) (by first | decide | omega) ?_
  refine ri_gH (hS.set_mi 4 rfl _) (fun M hS => ?_)
  refine ri_aload_n h d_Md_shape_20 rfl ?_
  refine ri_get h d_Md_shape_21 fl_Md_16 (by first | assumption | exact hS.mo | exact gup_s) (by rfl) ?_
  refine ri_aload_n h d_Md_shape_24 rfl ?_
  refine ri_get h d_Md_shape_25 fl_Md_118 (by first | assumption | exact hS.mo | exact gup_s) (by rfl) ?_
  refine ri_lload_n h d_Md_shape_28 rfl ?_
  refine ri_last h _ d_Md_shape_29 (by first | assumption | exact hS.a5) (by first | rfl | assumption) (by first | assumption | omega) (by first | decide | omega) ?_
  refine ri_gH (hS.set_ml 5 rfl _) (fun M hS => ?_)
  refine ri_aload_n h d_Md_shape_30 rfl ?_
  refine ri_get h d_Md_shape_31 fl_Md_20 (by first | assumption | exact hS.mo | exact gup_s) (by rfl) ?_
  refine ri_aload_n h d_Md_shape_34 rfl ?_
  refine ri_get h d_Md_shape_35 fl_Md_118 (by first | assumption | exact hS.mo | exact gup_s) (by rfl) ?_
  refine ri_iload h d_Md_shape_38 rfl ?_
  refine ri_iast h _ d_Md_shape_40 (by first | assumption | exact hS.a6) (by first | rfl | assumption) (by first | assumption | omega) (by first | decide | omega) ?_
  refine ri_gH (hS.set_mi 6 rfl _) (fun M hS => ?_)
  refine ri_aload_n h d_Md_shape_41 rfl ?_
  refine ri_get h d_Md_shape_42 fl_Md_23 (by first | assumption | exact hS.mo | exact gup_s) (by rfl) ?_
  refine ri_aload_n h d_Md_shape_45 rfl ?_
  refine ri_get h d_Md_shape_46 fl_Md_118 (by first | assumption | exact hS.mo | exact gup_s) (by rfl) ?_
  refine ri_iconstN h 0 d_Md_shape_49 rfl ?_
  refine ri_iast h _ d_Md_shape_50 (by first | assumption | exact hS.a7) (by first | rfl | assumption) (by first | assumption | omega) (by first | decide | omega) ?_
  refine ri_gH (hS.set_mi 7 rfl _) (fun M hS => ?_)
  refine ri_aload_n h d_Md_shape_51 rfl ?_
  refine ri_dup h d_Md_shape_52 rfl ?_
  refine ri_get h d_Md_shape_53 fl_Md_118 (by first | assumption | exact hS.mo | exact gup_s) (by rfl) ?_
  refine ri_iconstN h 1 d_Md_shape_56 rfl ?_
  first | refine ri_iaddN h d_Md_shape_57 ?_ | refine ri_iadd h d_Md_shape_57 ?_
  refine ri_pm_shapes h d_Md_shape_58 fl_Md_118 hS (fun M hS => ?_)
  refine ri_aload_n h d_Md_shape_61 rfl ?_
  refine ri_get h d_Md_shape_62 fl_Md_118 (by first | assumption | exact hS.mo | exact gup_s) (by rfl) ?_
  refine ri_iconstN h 1 d_Md_shape_65 rfl ?_
  first | refine ri_isubN h d_Md_shape_66 (by first | omega | exact Nat.le_add_left _ _) ?_ | refine ri_isub h d_Md_shape_66 ?_
  refine ri_ireturn h d_Md_shape_67 (Nat.le_of_ble_eq_true rfl) (Nat.le_of_ble_eq_true rfl) ?_
  exact ⟨rfl, _, hS, rfl⟩
theorem k_mpolygon_ok (h0 : g_0 l D s0) (hS : HS z ad Qc N M) (hm : MR Q N) (hW : WB Q) (hc : c < Q.nC) {v : Int32} (hv : ¬ v < 0 ∧ v < Q.L) (hn : Q.nS < 120) : Ct l D s0 y_Md_polygon (Cond.code y_Md_polygon b_Md_polygon 3 (some .int)) rkM [.ref (ad 30 0), .int (nI c), .int v] M (fM z ad Qc (some (.int (nI Q.nS))) (fun N' => N' = shN (N.set_code 0) (nI c) v 0 0)) := by
  rw [← hm.ns] at hn ⊢
  have hc : ∃ c', c' < Q.nC ∧ nI c = nI c' := ⟨c, hc, rfl⟩
  refine Ct.of h0 (by decide +kernel) rfl fun X hX h => ?_
  obtain ⟨p_, l', e_, R_, s_, m_, ar_, be_, me_, c_⟩ := X
  obtain rfl : l' = l := hX
  refine ri_aload_n h d_Md_polygon_0 rfl ?_
  refine ri_aload_n h d_Md_polygon_1 rfl ?_
  refine ri_iload_n h d_Md_polygon_2 rfl ?_
  refine ri_cVv_1 (r := (gR6, gT6, 44)) h d_Md_polygon_3 cv_Md_121 (by first | exact hS.lcO | exact hS.lsO | exact hS.lpO | exact hS.cesO (by first | assumption | omega) | exact hS.cepO (by first | assumption | omega) | exact ⟨_, (by first | assumption | exact hS.st | exact hS.mo | exact hS.out | exact hS.sb | exact hS.ce (by first | assumption | omega) | exact hS.ceb (by first | assumption | omega) | exact hS.sh (by first | assumption | omega) | exact hS.shb (by first | assumption | omega) | exact hS.pl (by first | assumption | omega) | exact hS.plb (by first | assumption | omega) | exact hS.fl (by first | assumption | omega) | exact gup_s | (refine gup_t (by assumption) ?_; first | assumption | exact gup_s | (refine gup_t (by assumption) ?_; first | assumption | exact gup_s | (refine gup_t (by assumption) ?_; first | assumption | exact gup_s))))⟩) rfl (k_isCell h0 hS (by assumption) hW) (Nat.le_of_ble_eq_true rfl) (Nat.le_of_ble_eq_true rfl) (Nat.le_of_ble_eq_true rfl) (Nat.le_of_ble_eq_true rfl) (Nat.le_of_ble_eq_true rfl) ?_
  first | refine ri_ifB_eq h 17 d_Md_polygon_6 (by decide) (fun c_6 => ?_) (fun c_6 => ?_) | refine ri_ifN_eq h 17 d_Md_polygon_6 (by decide) (by omega) (fun c_6 => ?_) (fun c_6 => ?_) | refine ri_if_eq h 17 d_Md_polygon_6 (by decide) (fun c_6 => ?_) (fun c_6 => ?_)
  · first
    | (exfalso; first | exact absurd c_6 (by decide) | first | contradiction | omega)
    | (refine ri_iconstN h 1 d_Md_polygon_17 rfl ?_
       refine ri_goto h 35 d_Md_polygon_18 (by decide) ?_
       refine ri_pm_code h d_Md_polygon_35 fl_Md_108 hS (fun M hS => ?_)
       refine ri_aload_n h d_Md_polygon_38 rfl ?_
       refine ri_get h d_Md_polygon_39 fl_Md_108 (by first | assumption | exact hS.mo | exact gup_s) (by rfl) ?_
       try dsimp only [MS.code, MS.set_code]
       first | refine ri_ifN_le h 49 d_Md_polygon_42 (by decide) (by omega) (fun c_42 => ?_) (fun c_42 => ?_) | refine ri_if_le h 49 d_Md_polygon_42 (by decide) (fun c_42 => ?_) (fun c_42 => ?_)
       · first
         | (exfalso; first | exact absurd c_42 (by decide) | first | contradiction | omega)
         | (refine ri_aload_n h d_Md_polygon_49 rfl ?_
            refine ri_iload_n h d_Md_polygon_50 rfl ?_
            refine ri_iload_n h d_Md_polygon_51 rfl ?_
            refine ri_lconst h 0 d_Md_polygon_52 rfl ?_
            refine ri_iconstN h 0 d_Md_polygon_53 rfl ?_
            refine ri_dVv_4 (r := (gR6, gT6, 44)) h d_Md_polygon_54 cv_Md_128 (by first | exact hS.lcO | exact hS.lsO | exact hS.lpO | exact hS.cesO (by first | assumption | omega) | exact hS.cepO (by first | assumption | omega) | exact ⟨_, (by first | assumption | exact hS.st | exact hS.mo | exact hS.out | exact hS.sb | exact hS.ce (by first | assumption | omega) | exact hS.ceb (by first | assumption | omega) | exact hS.sh (by first | assumption | omega) | exact hS.shb (by first | assumption | omega) | exact hS.pl (by first | assumption | omega) | exact hS.plb (by first | assumption | omega) | exact hS.fl (by first | assumption | omega) | exact gup_s | (refine gup_t (by assumption) ?_; first | assumption | exact gup_s | (refine gup_t (by assumption) ?_; first | assumption | exact gup_s | (refine gup_t (by assumption) ?_; first | assumption | exact gup_s))))⟩) rfl (k_mshape h0 hS hn) (Nat.le_of_ble_eq_true rfl) (Nat.le_of_ble_eq_true rfl) (Nat.le_of_ble_eq_true rfl) (Nat.le_of_ble_eq_true rfl) (Nat.le_of_ble_eq_true rfl) (fun M hS => ?_)
            obtain ⟨N', hS, rfl⟩ := hS
            refine ri_ireturn h d_Md_polygon_57 (Nat.le_of_ble_eq_true rfl) (Nat.le_of_ble_eq_true rfl) ?_
            exact ⟨rfl, _, hS, rfl⟩)
       · first
         | (exfalso; first | exact absurd c_42 (by decide) | first | contradiction | omega)
         | (refine ri_iconstN h 0 d_Md_polygon_45 rfl ?_
            refine ri_goto h 57 d_Md_polygon_46 (by decide) ?_
            refine ri_ireturn h d_Md_polygon_57 (Nat.le_of_ble_eq_true rfl) (Nat.le_of_ble_eq_true rfl) ?_
            exact ⟨rfl, rfl⟩))
  · first
    | (exfalso; first | exact absurd c_6 (by decide) | first | contradiction | omega)
    | (refine ri_aload_n h d_Md_polygon_9 rfl ?_
       refine ri_iload_n h d_Md_polygon_10 rfl ?_
       refine ri_cVv_1 (r := (gR6, gT6, 44)) h d_Md_polygon_11 cv_Md_125 (by first | exact hS.lcO | exact hS.lsO | exact hS.lpO | exact hS.cesO (by first | assumption | omega) | exact hS.cepO (by first | assumption | omega) | exact ⟨_, (by first | assumption | exact hS.st | exact hS.mo | exact hS.out | exact hS.sb | exact hS.ce (by first | assumption | omega) | exact hS.ceb (by first | assumption | omega) | exact hS.sh (by first | assumption | omega) | exact hS.shb (by first | assumption | omega) | exact hS.pl (by first | assumption | omega) | exact hS.plb (by first | assumption | omega) | exact hS.fl (by first | assumption | omega) | exact gup_s | (refine gup_t (by assumption) ?_; first | assumption | exact gup_s | (refine gup_t (by assumption) ?_; first | assumption | exact gup_s | (refine gup_t (by assumption) ?_; first | assumption | exact gup_s))))⟩) rfl (k_isLayer h0 hS (by assumption)) (Nat.le_of_ble_eq_true rfl) (Nat.le_of_ble_eq_true rfl) (Nat.le_of_ble_eq_true rfl) (Nat.le_of_ble_eq_true rfl) (Nat.le_of_ble_eq_true rfl) ?_
       first | refine ri_ifB_ne h 21 d_Md_polygon_14 (by decide) (fun c_14 => ?_) (fun c_14 => ?_) | refine ri_ifN_ne h 21 d_Md_polygon_14 (by decide) (by omega) (fun c_14 => ?_) (fun c_14 => ?_) | refine ri_if_ne h 21 d_Md_polygon_14 (by decide) (fun c_14 => ?_) (fun c_14 => ?_)
       · first
         | (exfalso; first | exact absurd c_14 (by decide) | first | contradiction | omega)
         | (refine ri_aload_n h d_Md_polygon_21 rfl ?_
            refine ri_get h d_Md_polygon_22 fl_Md_118 (by first | assumption | exact hS.mo | exact gup_s) (by rfl) ?_
            refine ri_bipushN h 120 d_Md_polygon_25 rfl ?_
            first | refine ri_icmpN_ne h 34 d_Md_polygon_27 (by decide) (by omega) (by omega) (fun c_27 => ?_) (fun c_27 => ?_) | refine ri_icmp_ne h 34 d_Md_polygon_27 (by decide) (fun c_27 => ?_) (fun c_27 => ?_)
            · first
              | (exfalso; first | exact absurd c_27 (by decide) | first | contradiction | omega)
              | (refine ri_iconstN h 0 d_Md_polygon_34 rfl ?_
                 refine ri_pm_code h d_Md_polygon_35 fl_Md_108 hS (fun M hS => ?_)
                 refine ri_aload_n h d_Md_polygon_38 rfl ?_
                 refine ri_get h d_Md_polygon_39 fl_Md_108 (by first | assumption | exact hS.mo | exact gup_s) (by rfl) ?_
                 try dsimp only [MS.code, MS.set_code]
                 first | refine ri_ifN_le h 49 d_Md_polygon_42 (by decide) (by omega) (fun c_42 => ?_) (fun c_42 => ?_) | refine ri_if_le h 49 d_Md_polygon_42 (by decide) (fun c_42 => ?_) (fun c_42 => ?_)
                 · first
                   | (exfalso; first | exact absurd c_42 (by decide) | first | contradiction | omega)
                   | (refine ri_aload_n h d_Md_polygon_49 rfl ?_
                      refine ri_iload_n h d_Md_polygon_50 rfl ?_
                      refine ri_iload_n h d_Md_polygon_51 rfl ?_
                      refine ri_lconst h 0 d_Md_polygon_52 rfl ?_
                      refine ri_iconstN h 0 d_Md_polygon_53 rfl ?_
                      refine ri_dVv_4 (r := (gR6, gT6, 44)) h d_Md_polygon_54 cv_Md_128 (by first | exact hS.lcO | exact hS.lsO | exact hS.lpO | exact hS.cesO (by first | assumption | omega) | exact hS.cepO (by first | assumption | omega) | exact ⟨_, (by first | assumption | exact hS.st | exact hS.mo | exact hS.out | exact hS.sb | exact hS.ce (by first | assumption | omega) | exact hS.ceb (by first | assumption | omega) | exact hS.sh (by first | assumption | omega) | exact hS.shb (by first | assumption | omega) | exact hS.pl (by first | assumption | omega) | exact hS.plb (by first | assumption | omega) | exact hS.fl (by first | assumption | omega) | exact gup_s | (refine gup_t (by assumption) ?_; first | assumption | exact gup_s | (refine gup_t (by assumption) ?_; first | assumption | exact gup_s | (refine gup_t (by assumption) ?_; first | assumption | exact gup_s))))⟩) rfl (k_mshape h0 hS hn) (Nat.le_of_ble_eq_true rfl) (Nat.le_of_ble_eq_true rfl) (Nat.le_of_ble_eq_true rfl) (Nat.le_of_ble_eq_true rfl) (Nat.le_of_ble_eq_true rfl) (fun M hS => ?_)
                      obtain ⟨N', hS, rfl⟩ := hS
                      refine ri_ireturn h d_Md_polygon_57 (Nat.le_of_ble_eq_true rfl) (Nat.le_of_ble_eq_true rfl) ?_
                      exact ⟨rfl, _, hS, rfl⟩)
                 · first
                   | (exfalso; first | exact absurd c_42 (by decide) | first | contradiction | omega)
                   | (refine ri_iconstN h 0 d_Md_polygon_45 rfl ?_
                      refine ri_goto h 57 d_Md_polygon_46 (by decide) ?_
                      refine ri_ireturn h d_Md_polygon_57 (Nat.le_of_ble_eq_true rfl) (Nat.le_of_ble_eq_true rfl) ?_
                      exact ⟨rfl, rfl⟩))
            · first
              | (exfalso; first | exact absurd c_27 (by decide) | first | contradiction | omega)
              | (refine ri_iconstN h 2 d_Md_polygon_30 rfl ?_
                 refine ri_goto h 35 d_Md_polygon_31 (by decide) ?_
                 refine ri_pm_code h d_Md_polygon_35 fl_Md_108 hS (fun M hS => ?_)
                 refine ri_aload_n h d_Md_polygon_38 rfl ?_
                 refine ri_get h d_Md_polygon_39 fl_Md_108 (by first | assumption | exact hS.mo | exact gup_s) (by rfl) ?_
                 try dsimp only [MS.code, MS.set_code]
                 first | refine ri_ifN_le h 49 d_Md_polygon_42 (by decide) (by omega) (fun c_42 => ?_) (fun c_42 => ?_) | refine ri_if_le h 49 d_Md_polygon_42 (by decide) (fun c_42 => ?_) (fun c_42 => ?_)
                 · first
                   | (exfalso; first | exact absurd c_42 (by decide) | first | contradiction | omega)
                   | (refine ri_aload_n h d_Md_polygon_49 rfl ?_
                      refine ri_iload_n h d_Md_polygon_50 rfl ?_
                      refine ri_iload_n h d_Md_polygon_51 rfl ?_
                      refine ri_lconst h 0 d_Md_polygon_52 rfl ?_
                      refine ri_iconstN h 0 d_Md_polygon_53 rfl ?_
                      refine ri_dVv_4 (r := (gR6, gT6, 44)) h d_Md_polygon_54 cv_Md_128 (by first | exact hS.lcO | exact hS.lsO | exact hS.lpO | exact hS.cesO (by first | assumption | omega) | exact hS.cepO (by first | assumption | omega) | exact ⟨_, (by first | assumption | exact hS.st | exact hS.mo | exact hS.out | exact hS.sb | exact hS.ce (by first | assumption | omega) | exact hS.ceb (by first | assumption | omega) | exact hS.sh (by first | assumption | omega) | exact hS.shb (by first | assumption | omega) | exact hS.pl (by first | assumption | omega) | exact hS.plb (by first | assumption | omega) | exact hS.fl (by first | assumption | omega) | exact gup_s | (refine gup_t (by assumption) ?_; first | assumption | exact gup_s | (refine gup_t (by assumption) ?_; first | assumption | exact gup_s | (refine gup_t (by assumption) ?_; first | assumption | exact gup_s))))⟩) rfl (k_mshape h0 hS hn) (Nat.le_of_ble_eq_true rfl) (Nat.le_of_ble_eq_true rfl) (Nat.le_of_ble_eq_true rfl) (Nat.le_of_ble_eq_true rfl) (Nat.le_of_ble_eq_true rfl) (fun M hS => ?_)
                      obtain ⟨N', hS, rfl⟩ := hS
                      refine ri_ireturn h d_Md_polygon_57 (Nat.le_of_ble_eq_true rfl) (Nat.le_of_ble_eq_true rfl) ?_
                      exact ⟨rfl, _, hS, rfl⟩)
                 · first
                   | (exfalso; first | exact absurd c_42 (by decide) | first | contradiction | omega)
                   | (refine ri_iconstN h 0 d_Md_polygon_45 rfl ?_
                      refine ri_goto h 57 d_Md_polygon_46 (by decide) ?_
                      refine ri_ireturn h d_Md_polygon_57 (Nat.le_of_ble_eq_true rfl) (Nat.le_of_ble_eq_true rfl) ?_
                      exact ⟨rfl, rfl⟩)))
       · first
         | (exfalso; first | exact absurd c_14 (by decide) | first | contradiction | omega)
         | (refine ri_iconstN h 1 d_Md_polygon_17 rfl ?_
            refine ri_goto h 35 d_Md_polygon_18 (by decide) ?_
            refine ri_pm_code h d_Md_polygon_35 fl_Md_108 hS (fun M hS => ?_)
            refine ri_aload_n h d_Md_polygon_38 rfl ?_
            refine ri_get h d_Md_polygon_39 fl_Md_108 (by first | assumption | exact hS.mo | exact gup_s) (by rfl) ?_
            try dsimp only [MS.code, MS.set_code]
            first | refine ri_ifN_le h 49 d_Md_polygon_42 (by decide) (by omega) (fun c_42 => ?_) (fun c_42 => ?_) | refine ri_if_le h 49 d_Md_polygon_42 (by decide) (fun c_42 => ?_) (fun c_42 => ?_)
            · first
              | (exfalso; first | exact absurd c_42 (by decide) | first | contradiction | omega)
              | (refine ri_aload_n h d_Md_polygon_49 rfl ?_
                 refine ri_iload_n h d_Md_polygon_50 rfl ?_
                 refine ri_iload_n h d_Md_polygon_51 rfl ?_
                 refine ri_lconst h 0 d_Md_polygon_52 rfl ?_
                 refine ri_iconstN h 0 d_Md_polygon_53 rfl ?_
                 refine ri_dVv_4 (r := (gR6, gT6, 44)) h d_Md_polygon_54 cv_Md_128 (by first | exact hS.lcO | exact hS.lsO | exact hS.lpO | exact hS.cesO (by first | assumption | omega) | exact hS.cepO (by first | assumption | omega) | exact ⟨_, (by first | assumption | exact hS.st | exact hS.mo | exact hS.out | exact hS.sb | exact hS.ce (by first | assumption | omega) | exact hS.ceb (by first | assumption | omega) | exact hS.sh (by first | assumption | omega) | exact hS.shb (by first | assumption | omega) | exact hS.pl (by first | assumption | omega) | exact hS.plb (by first | assumption | omega) | exact hS.fl (by first | assumption | omega) | exact gup_s | (refine gup_t (by assumption) ?_; first | assumption | exact gup_s | (refine gup_t (by assumption) ?_; first | assumption | exact gup_s | (refine gup_t (by assumption) ?_; first | assumption | exact gup_s))))⟩) rfl (k_mshape h0 hS hn) (Nat.le_of_ble_eq_true rfl) (Nat.le_of_ble_eq_true rfl) (Nat.le_of_ble_eq_true rfl) (Nat.le_of_ble_eq_true rfl) (Nat.le_of_ble_eq_true rfl) (fun M hS => ?_)
                 obtain ⟨N', hS, rfl⟩ := hS
                 refine ri_ireturn h d_Md_polygon_57 (Nat.le_of_ble_eq_true rfl) (Nat.le_of_ble_eq_true rfl) ?_
                 exact ⟨rfl, _, hS, rfl⟩)
            · first
              | (exfalso; first | exact absurd c_42 (by decide) | first | contradiction | omega)
              | (refine ri_iconstN h 0 d_Md_polygon_45 rfl ?_
                 refine ri_goto h 57 d_Md_polygon_46 (by decide) ?_
                 refine ri_ireturn h d_Md_polygon_57 (Nat.le_of_ble_eq_true rfl) (Nat.le_of_ble_eq_true rfl) ?_
                 exact ⟨rfl, rfl⟩)))
theorem k_mpolygon_no1 (h0 : g_0 l D s0) (hS : HS z ad Qc N M) (hm : MR Q N) (hW : WB Q) {p v : Int32} (hn : ¬ (∃ c, c < Q.nC ∧ p = nI c) ∨ ¬ (¬ v < 0 ∧ v < Q.L)) : Ct l D s0 y_Md_polygon (Cond.code y_Md_polygon b_Md_polygon 3 (some .int)) rkM [.ref (ad 30 0), .int p, .int v] M (fM z ad Qc (some (.int 0)) (fun N' => N' = N.set_code 1)) := by
  refine Ct.of h0 (by decide +kernel) rfl fun X hX h => ?_
  obtain ⟨p_, l', e_, R_, s_, m_, ar_, be_, me_, c_⟩ := X
  obtain rfl : l' = l := hX
  rcases hn with hn | hn
  · refine ri_aload_n h d_Md_polygon_0 rfl ?_
    refine ri_aload_n h d_Md_polygon_1 rfl ?_
    refine ri_iload_n h d_Md_polygon_2 rfl ?_
    refine ri_cVv_1 (r := (gR6, gT6, 44)) h d_Md_polygon_3 cv_Md_121 (by first | exact hS.lcO | exact hS.lsO | exact hS.lpO | exact hS.cesO (by first | assumption | omega) | exact hS.cepO (by first | assumption | omega) | exact ⟨_, (by first | assumption | exact hS.st | exact hS.mo | exact hS.out | exact hS.sb | exact hS.ce (by first | assumption | omega) | exact hS.ceb (by first | assumption | omega) | exact hS.sh (by first | assumption | omega) | exact hS.shb (by first | assumption | omega) | exact hS.pl (by first | assumption | omega) | exact hS.plb (by first | assumption | omega) | exact hS.fl (by first | assumption | omega) | exact gup_s | (refine gup_t (by assumption) ?_; first | assumption | exact gup_s | (refine gup_t (by assumption) ?_; first | assumption | exact gup_s | (refine gup_t (by assumption) ?_; first | assumption | exact gup_s))))⟩) rfl (k_isCell h0 hS (by assumption) hW) (Nat.le_of_ble_eq_true rfl) (Nat.le_of_ble_eq_true rfl) (Nat.le_of_ble_eq_true rfl) (Nat.le_of_ble_eq_true rfl) (Nat.le_of_ble_eq_true rfl) ?_
    first | refine ri_ifB_eq h 17 d_Md_polygon_6 (by decide) (fun c_6 => ?_) (fun c_6 => ?_) | refine ri_ifN_eq h 17 d_Md_polygon_6 (by decide) (by omega) (fun c_6 => ?_) (fun c_6 => ?_) | refine ri_if_eq h 17 d_Md_polygon_6 (by decide) (fun c_6 => ?_) (fun c_6 => ?_)
    · first
      | (exfalso; first | exact absurd c_6 (by decide) | first | contradiction | omega)
      | (refine ri_iconstN h 1 d_Md_polygon_17 rfl ?_
         refine ri_goto h 35 d_Md_polygon_18 (by decide) ?_
         refine ri_pm_code h d_Md_polygon_35 fl_Md_108 hS (fun M hS => ?_)
         refine ri_aload_n h d_Md_polygon_38 rfl ?_
         refine ri_get h d_Md_polygon_39 fl_Md_108 (by first | assumption | exact hS.mo | exact gup_s) (by rfl) ?_
         try dsimp only [MS.code, MS.set_code]
         first | refine ri_ifN_le h 49 d_Md_polygon_42 (by decide) (by omega) (fun c_42 => ?_) (fun c_42 => ?_) | refine ri_if_le h 49 d_Md_polygon_42 (by decide) (fun c_42 => ?_) (fun c_42 => ?_)
         · first
           | (exfalso; first | exact absurd c_42 (by decide) | first | contradiction | omega)
           | (refine ri_aload_n h d_Md_polygon_49 rfl ?_
              refine ri_iload_n h d_Md_polygon_50 rfl ?_
              refine ri_iload_n h d_Md_polygon_51 rfl ?_
              refine ri_lconst h 0 d_Md_polygon_52 rfl ?_
              refine ri_iconstN h 0 d_Md_polygon_53 rfl ?_
              contradiction)
         · first
           | (exfalso; first | exact absurd c_42 (by decide) | first | contradiction | omega)
           | (refine ri_iconstN h 0 d_Md_polygon_45 rfl ?_
              refine ri_goto h 57 d_Md_polygon_46 (by decide) ?_
              refine ri_ireturn h d_Md_polygon_57 (Nat.le_of_ble_eq_true rfl) (Nat.le_of_ble_eq_true rfl) ?_
              exact ⟨rfl, _, hS, rfl⟩))
    · first
      | (exfalso; first | exact absurd c_6 (by decide) | first | contradiction | omega)
      | (refine ri_aload_n h d_Md_polygon_9 rfl ?_
         refine ri_iload_n h d_Md_polygon_10 rfl ?_
         refine ri_cVv_1 (r := (gR6, gT6, 44)) h d_Md_polygon_11 cv_Md_125 (by first | exact hS.lcO | exact hS.lsO | exact hS.lpO | exact hS.cesO (by first | assumption | omega) | exact hS.cepO (by first | assumption | omega) | exact ⟨_, (by first | assumption | exact hS.st | exact hS.mo | exact hS.out | exact hS.sb | exact hS.ce (by first | assumption | omega) | exact hS.ceb (by first | assumption | omega) | exact hS.sh (by first | assumption | omega) | exact hS.shb (by first | assumption | omega) | exact hS.pl (by first | assumption | omega) | exact hS.plb (by first | assumption | omega) | exact hS.fl (by first | assumption | omega) | exact gup_s | (refine gup_t (by assumption) ?_; first | assumption | exact gup_s | (refine gup_t (by assumption) ?_; first | assumption | exact gup_s | (refine gup_t (by assumption) ?_; first | assumption | exact gup_s))))⟩) rfl (k_isLayer h0 hS (by assumption)) (Nat.le_of_ble_eq_true rfl) (Nat.le_of_ble_eq_true rfl) (Nat.le_of_ble_eq_true rfl) (Nat.le_of_ble_eq_true rfl) (Nat.le_of_ble_eq_true rfl) ?_
         first | refine ri_ifB_ne h 21 d_Md_polygon_14 (by decide) (fun c_14 => ?_) (fun c_14 => ?_) | refine ri_ifN_ne h 21 d_Md_polygon_14 (by decide) (by omega) (fun c_14 => ?_) (fun c_14 => ?_) | refine ri_if_ne h 21 d_Md_polygon_14 (by decide) (fun c_14 => ?_) (fun c_14 => ?_)
         · first
           | (exfalso; first | exact absurd c_14 (by decide) | first | contradiction | omega)
           | (refine ri_aload_n h d_Md_polygon_21 rfl ?_
              refine ri_get h d_Md_polygon_22 fl_Md_118 (by first | assumption | exact hS.mo | exact gup_s) (by rfl) ?_
              refine ri_bipushN h 120 d_Md_polygon_25 rfl ?_
              first | refine ri_icmpN_ne h 34 d_Md_polygon_27 (by decide) (by omega) (by omega) (fun c_27 => ?_) (fun c_27 => ?_) | refine ri_icmp_ne h 34 d_Md_polygon_27 (by decide) (fun c_27 => ?_) (fun c_27 => ?_)
              · first
                | (exfalso; first | exact absurd c_27 (by decide) | first | contradiction | omega)
                | (refine ri_iconstN h 0 d_Md_polygon_34 rfl ?_
                   refine ri_pm_code h d_Md_polygon_35 fl_Md_108 hS (fun M hS => ?_)
                   refine ri_aload_n h d_Md_polygon_38 rfl ?_
                   refine ri_get h d_Md_polygon_39 fl_Md_108 (by first | assumption | exact hS.mo | exact gup_s) (by rfl) ?_
                   try dsimp only [MS.code, MS.set_code]
                   first | refine ri_ifN_le h 49 d_Md_polygon_42 (by decide) (by omega) (fun c_42 => ?_) (fun c_42 => ?_) | refine ri_if_le h 49 d_Md_polygon_42 (by decide) (fun c_42 => ?_) (fun c_42 => ?_)
                   · first
                     | (exfalso; first | exact absurd c_42 (by decide) | first | contradiction | omega)
                     | (refine ri_aload_n h d_Md_polygon_49 rfl ?_
                        refine ri_iload_n h d_Md_polygon_50 rfl ?_
                        refine ri_iload_n h d_Md_polygon_51 rfl ?_
                        refine ri_lconst h 0 d_Md_polygon_52 rfl ?_
                        refine ri_iconstN h 0 d_Md_polygon_53 rfl ?_
                        contradiction)
                   · first
                     | (exfalso; first | exact absurd c_42 (by decide) | first | contradiction | omega)
                     | (refine ri_iconstN h 0 d_Md_polygon_45 rfl ?_
                        refine ri_goto h 57 d_Md_polygon_46 (by decide) ?_
                        refine ri_ireturn h d_Md_polygon_57 (Nat.le_of_ble_eq_true rfl) (Nat.le_of_ble_eq_true rfl) ?_
                        exact ⟨rfl, _, hS, rfl⟩))
              · first
                | (exfalso; first | exact absurd c_27 (by decide) | first | contradiction | omega)
                | (refine ri_iconstN h 2 d_Md_polygon_30 rfl ?_
                   refine ri_goto h 35 d_Md_polygon_31 (by decide) ?_
                   refine ri_pm_code h d_Md_polygon_35 fl_Md_108 hS (fun M hS => ?_)
                   refine ri_aload_n h d_Md_polygon_38 rfl ?_
                   refine ri_get h d_Md_polygon_39 fl_Md_108 (by first | assumption | exact hS.mo | exact gup_s) (by rfl) ?_
                   try dsimp only [MS.code, MS.set_code]
                   first | refine ri_ifN_le h 49 d_Md_polygon_42 (by decide) (by omega) (fun c_42 => ?_) (fun c_42 => ?_) | refine ri_if_le h 49 d_Md_polygon_42 (by decide) (fun c_42 => ?_) (fun c_42 => ?_)
                   · first
                     | (exfalso; first | exact absurd c_42 (by decide) | first | contradiction | omega)
                     | (refine ri_aload_n h d_Md_polygon_49 rfl ?_
                        refine ri_iload_n h d_Md_polygon_50 rfl ?_
                        refine ri_iload_n h d_Md_polygon_51 rfl ?_
                        refine ri_lconst h 0 d_Md_polygon_52 rfl ?_
                        refine ri_iconstN h 0 d_Md_polygon_53 rfl ?_
                        contradiction)
                   · first
                     | (exfalso; first | exact absurd c_42 (by decide) | first | contradiction | omega)
                     | (refine ri_iconstN h 0 d_Md_polygon_45 rfl ?_
                        refine ri_goto h 57 d_Md_polygon_46 (by decide) ?_
                        refine ri_ireturn h d_Md_polygon_57 (Nat.le_of_ble_eq_true rfl) (Nat.le_of_ble_eq_true rfl) ?_
                        exact ⟨rfl, _, hS, rfl⟩)))
         · first
           | (exfalso; first | exact absurd c_14 (by decide) | first | contradiction | omega)
           | (refine ri_iconstN h 1 d_Md_polygon_17 rfl ?_
              refine ri_goto h 35 d_Md_polygon_18 (by decide) ?_
              refine ri_pm_code h d_Md_polygon_35 fl_Md_108 hS (fun M hS => ?_)
              refine ri_aload_n h d_Md_polygon_38 rfl ?_
              refine ri_get h d_Md_polygon_39 fl_Md_108 (by first | assumption | exact hS.mo | exact gup_s) (by rfl) ?_
              try dsimp only [MS.code, MS.set_code]
              first | refine ri_ifN_le h 49 d_Md_polygon_42 (by decide) (by omega) (fun c_42 => ?_) (fun c_42 => ?_) | refine ri_if_le h 49 d_Md_polygon_42 (by decide) (fun c_42 => ?_) (fun c_42 => ?_)
              · first
                | (exfalso; first | exact absurd c_42 (by decide) | first | contradiction | omega)
                | (refine ri_aload_n h d_Md_polygon_49 rfl ?_
                   refine ri_iload_n h d_Md_polygon_50 rfl ?_
                   refine ri_iload_n h d_Md_polygon_51 rfl ?_
                   refine ri_lconst h 0 d_Md_polygon_52 rfl ?_
                   refine ri_iconstN h 0 d_Md_polygon_53 rfl ?_
                   contradiction)
              · first
                | (exfalso; first | exact absurd c_42 (by decide) | first | contradiction | omega)
                | (refine ri_iconstN h 0 d_Md_polygon_45 rfl ?_
                   refine ri_goto h 57 d_Md_polygon_46 (by decide) ?_
                   refine ri_ireturn h d_Md_polygon_57 (Nat.le_of_ble_eq_true rfl) (Nat.le_of_ble_eq_true rfl) ?_
                   exact ⟨rfl, _, hS, rfl⟩)))
  · refine ri_aload_n h d_Md_polygon_0 rfl ?_
    refine ri_aload_n h d_Md_polygon_1 rfl ?_
    refine ri_iload_n h d_Md_polygon_2 rfl ?_
    refine ri_cVv_1 (r := (gR6, gT6, 44)) h d_Md_polygon_3 cv_Md_121 (by first | exact hS.lcO | exact hS.lsO | exact hS.lpO | exact hS.cesO (by first | assumption | omega) | exact hS.cepO (by first | assumption | omega) | exact ⟨_, (by first | assumption | exact hS.st | exact hS.mo | exact hS.out | exact hS.sb | exact hS.ce (by first | assumption | omega) | exact hS.ceb (by first | assumption | omega) | exact hS.sh (by first | assumption | omega) | exact hS.shb (by first | assumption | omega) | exact hS.pl (by first | assumption | omega) | exact hS.plb (by first | assumption | omega) | exact hS.fl (by first | assumption | omega) | exact gup_s | (refine gup_t (by assumption) ?_; first | assumption | exact gup_s | (refine gup_t (by assumption) ?_; first | assumption | exact gup_s | (refine gup_t (by assumption) ?_; first | assumption | exact gup_s))))⟩) rfl (k_isCell h0 hS (by assumption) hW) (Nat.le_of_ble_eq_true rfl) (Nat.le_of_ble_eq_true rfl) (Nat.le_of_ble_eq_true rfl) (Nat.le_of_ble_eq_true rfl) (Nat.le_of_ble_eq_true rfl) ?_
    first | refine ri_ifB_eq h 17 d_Md_polygon_6 (by decide) (fun c_6 => ?_) (fun c_6 => ?_) | refine ri_ifN_eq h 17 d_Md_polygon_6 (by decide) (by omega) (fun c_6 => ?_) (fun c_6 => ?_) | refine ri_if_eq h 17 d_Md_polygon_6 (by decide) (fun c_6 => ?_) (fun c_6 => ?_)
    · first
      | (exfalso; first | exact absurd c_6 (by decide) | first | contradiction | omega)
      | (refine ri_iconstN h 1 d_Md_polygon_17 rfl ?_
         refine ri_goto h 35 d_Md_polygon_18 (by decide) ?_
         refine ri_pm_code h d_Md_polygon_35 fl_Md_108 hS (fun M hS => ?_)
         refine ri_aload_n h d_Md_polygon_38 rfl ?_
         refine ri_get h d_Md_polygon_39 fl_Md_108 (by first | assumption | exact hS.mo | exact gup_s) (by rfl) ?_
         try dsimp only [MS.code, MS.set_code]
         first | refine ri_ifN_le h 49 d_Md_polygon_42 (by decide) (by omega) (fun c_42 => ?_) (fun c_42 => ?_) | refine ri_if_le h 49 d_Md_polygon_42 (by decide) (fun c_42 => ?_) (fun c_42 => ?_)
         · first
           | (exfalso; first | exact absurd c_42 (by decide) | first | contradiction | omega)
           | (refine ri_aload_n h d_Md_polygon_49 rfl ?_
              refine ri_iload_n h d_Md_polygon_50 rfl ?_
              refine ri_iload_n h d_Md_polygon_51 rfl ?_
              refine ri_lconst h 0 d_Md_polygon_52 rfl ?_
              refine ri_iconstN h 0 d_Md_polygon_53 rfl ?_
              contradiction)
         · first
           | (exfalso; first | exact absurd c_42 (by decide) | first | contradiction | omega)
           | (refine ri_iconstN h 0 d_Md_polygon_45 rfl ?_
              refine ri_goto h 57 d_Md_polygon_46 (by decide) ?_
              refine ri_ireturn h d_Md_polygon_57 (Nat.le_of_ble_eq_true rfl) (Nat.le_of_ble_eq_true rfl) ?_
              exact ⟨rfl, _, hS, rfl⟩))
    · first
      | (exfalso; first | exact absurd c_6 (by decide) | first | contradiction | omega)
      | (refine ri_aload_n h d_Md_polygon_9 rfl ?_
         refine ri_iload_n h d_Md_polygon_10 rfl ?_
         refine ri_cVv_1 (r := (gR6, gT6, 44)) h d_Md_polygon_11 cv_Md_125 (by first | exact hS.lcO | exact hS.lsO | exact hS.lpO | exact hS.cesO (by first | assumption | omega) | exact hS.cepO (by first | assumption | omega) | exact ⟨_, (by first | assumption | exact hS.st | exact hS.mo | exact hS.out | exact hS.sb | exact hS.ce (by first | assumption | omega) | exact hS.ceb (by first | assumption | omega) | exact hS.sh (by first | assumption | omega) | exact hS.shb (by first | assumption | omega) | exact hS.pl (by first | assumption | omega) | exact hS.plb (by first | assumption | omega) | exact hS.fl (by first | assumption | omega) | exact gup_s | (refine gup_t (by assumption) ?_; first | assumption | exact gup_s | (refine gup_t (by assumption) ?_; first | assumption | exact gup_s | (refine gup_t (by assumption) ?_; first | assumption | exact gup_s))))⟩) rfl (k_isLayer h0 hS (by assumption)) (Nat.le_of_ble_eq_true rfl) (Nat.le_of_ble_eq_true rfl) (Nat.le_of_ble_eq_true rfl) (Nat.le_of_ble_eq_true rfl) (Nat.le_of_ble_eq_true rfl) ?_
         first | refine ri_ifB_ne h 21 d_Md_polygon_14 (by decide) (fun c_14 => ?_) (fun c_14 => ?_) | refine ri_ifN_ne h 21 d_Md_polygon_14 (by decide) (by omega) (fun c_14 => ?_) (fun c_14 => ?_) | refine ri_if_ne h 21 d_Md_polygon_14 (by decide) (fun c_14 => ?_) (fun c_14 => ?_)
         · first
           | (exfalso; first | exact absurd c_14 (by decide) | first | contradiction | omega)
           | (refine ri_aload_n h d_Md_polygon_21 rfl ?_
              refine ri_get h d_Md_polygon_22 fl_Md_118 (by first | assumption | exact hS.mo | exact gup_s) (by rfl) ?_
              refine ri_bipushN h 120 d_Md_polygon_25 rfl ?_
              first | refine ri_icmpN_ne h 34 d_Md_polygon_27 (by decide) (by omega) (by omega) (fun c_27 => ?_) (fun c_27 => ?_) | refine ri_icmp_ne h 34 d_Md_polygon_27 (by decide) (fun c_27 => ?_) (fun c_27 => ?_)
              · first
                | (exfalso; first | exact absurd c_27 (by decide) | first | contradiction | omega)
                | (refine ri_iconstN h 0 d_Md_polygon_34 rfl ?_
                   refine ri_pm_code h d_Md_polygon_35 fl_Md_108 hS (fun M hS => ?_)
                   refine ri_aload_n h d_Md_polygon_38 rfl ?_
                   refine ri_get h d_Md_polygon_39 fl_Md_108 (by first | assumption | exact hS.mo | exact gup_s) (by rfl) ?_
                   try dsimp only [MS.code, MS.set_code]
                   first | refine ri_ifN_le h 49 d_Md_polygon_42 (by decide) (by omega) (fun c_42 => ?_) (fun c_42 => ?_) | refine ri_if_le h 49 d_Md_polygon_42 (by decide) (fun c_42 => ?_) (fun c_42 => ?_)
                   · first
                     | (exfalso; first | exact absurd c_42 (by decide) | first | contradiction | omega)
                     | (refine ri_aload_n h d_Md_polygon_49 rfl ?_
                        refine ri_iload_n h d_Md_polygon_50 rfl ?_
                        refine ri_iload_n h d_Md_polygon_51 rfl ?_
                        refine ri_lconst h 0 d_Md_polygon_52 rfl ?_
                        refine ri_iconstN h 0 d_Md_polygon_53 rfl ?_
                        contradiction)
                   · first
                     | (exfalso; first | exact absurd c_42 (by decide) | first | contradiction | omega)
                     | (refine ri_iconstN h 0 d_Md_polygon_45 rfl ?_
                        refine ri_goto h 57 d_Md_polygon_46 (by decide) ?_
                        refine ri_ireturn h d_Md_polygon_57 (Nat.le_of_ble_eq_true rfl) (Nat.le_of_ble_eq_true rfl) ?_
                        exact ⟨rfl, _, hS, rfl⟩))
              · first
                | (exfalso; first | exact absurd c_27 (by decide) | first | contradiction | omega)
                | (refine ri_iconstN h 2 d_Md_polygon_30 rfl ?_
                   refine ri_goto h 35 d_Md_polygon_31 (by decide) ?_
                   refine ri_pm_code h d_Md_polygon_35 fl_Md_108 hS (fun M hS => ?_)
                   refine ri_aload_n h d_Md_polygon_38 rfl ?_
                   refine ri_get h d_Md_polygon_39 fl_Md_108 (by first | assumption | exact hS.mo | exact gup_s) (by rfl) ?_
                   try dsimp only [MS.code, MS.set_code]
                   first | refine ri_ifN_le h 49 d_Md_polygon_42 (by decide) (by omega) (fun c_42 => ?_) (fun c_42 => ?_) | refine ri_if_le h 49 d_Md_polygon_42 (by decide) (fun c_42 => ?_) (fun c_42 => ?_)
                   · first
                     | (exfalso; first | exact absurd c_42 (by decide) | first | contradiction | omega)
                     | (refine ri_aload_n h d_Md_polygon_49 rfl ?_
                        refine ri_iload_n h d_Md_polygon_50 rfl ?_
                        refine ri_iload_n h d_Md_polygon_51 rfl ?_
                        refine ri_lconst h 0 d_Md_polygon_52 rfl ?_
                        refine ri_iconstN h 0 d_Md_polygon_53 rfl ?_
                        contradiction)
                   · first
                     | (exfalso; first | exact absurd c_42 (by decide) | first | contradiction | omega)
                     | (refine ri_iconstN h 0 d_Md_polygon_45 rfl ?_
                        refine ri_goto h 57 d_Md_polygon_46 (by decide) ?_
                        refine ri_ireturn h d_Md_polygon_57 (Nat.le_of_ble_eq_true rfl) (Nat.le_of_ble_eq_true rfl) ?_
                        exact ⟨rfl, _, hS, rfl⟩)))
         · first
           | (exfalso; first | exact absurd c_14 (by decide) | first | contradiction | omega)
           | (refine ri_iconstN h 1 d_Md_polygon_17 rfl ?_
              refine ri_goto h 35 d_Md_polygon_18 (by decide) ?_
              refine ri_pm_code h d_Md_polygon_35 fl_Md_108 hS (fun M hS => ?_)
              refine ri_aload_n h d_Md_polygon_38 rfl ?_
              refine ri_get h d_Md_polygon_39 fl_Md_108 (by first | assumption | exact hS.mo | exact gup_s) (by rfl) ?_
              try dsimp only [MS.code, MS.set_code]
              first | refine ri_ifN_le h 49 d_Md_polygon_42 (by decide) (by omega) (fun c_42 => ?_) (fun c_42 => ?_) | refine ri_if_le h 49 d_Md_polygon_42 (by decide) (fun c_42 => ?_) (fun c_42 => ?_)
              · first
                | (exfalso; first | exact absurd c_42 (by decide) | first | contradiction | omega)
                | (refine ri_aload_n h d_Md_polygon_49 rfl ?_
                   refine ri_iload_n h d_Md_polygon_50 rfl ?_
                   refine ri_iload_n h d_Md_polygon_51 rfl ?_
                   refine ri_lconst h 0 d_Md_polygon_52 rfl ?_
                   refine ri_iconstN h 0 d_Md_polygon_53 rfl ?_
                   contradiction)
              · first
                | (exfalso; first | exact absurd c_42 (by decide) | first | contradiction | omega)
                | (refine ri_iconstN h 0 d_Md_polygon_45 rfl ?_
                   refine ri_goto h 57 d_Md_polygon_46 (by decide) ?_
                   refine ri_ireturn h d_Md_polygon_57 (Nat.le_of_ble_eq_true rfl) (Nat.le_of_ble_eq_true rfl) ?_
                   exact ⟨rfl, _, hS, rfl⟩)))
theorem k_mpolygon_no2 (h0 : g_0 l D s0) (hS : HS z ad Qc N M) (hm : MR Q N) (hW : WB Q) {p v : Int32} (hc : ∃ c, c < Q.nC ∧ p = nI c) (hv : ¬ v < 0 ∧ v < Q.L) (hn : Q.nS = 120) : Ct l D s0 y_Md_polygon (Cond.code y_Md_polygon b_Md_polygon 3 (some .int)) rkM [.ref (ad 30 0), .int p, .int v] M (fM z ad Qc (some (.int 0)) (fun N' => N' = N.set_code 2)) := by
  rw [← hm.ns] at hn
  refine Ct.of h0 (by decide +kernel) rfl fun X hX h => ?_
  obtain ⟨p_, l', e_, R_, s_, m_, ar_, be_, me_, c_⟩ := X
  obtain rfl : l' = l := hX
  refine ri_aload_n h d_Md_polygon_0 rfl ?_
  refine ri_aload_n h d_Md_polygon_1 rfl ?_
  refine ri_iload_n h d_Md_polygon_2 rfl ?_
  refine ri_cVv_1 (r := (gR6, gT6, 44)) h d_Md_polygon_3 cv_Md_121 (by first | exact hS.lcO | exact hS.lsO | exact hS.lpO | exact hS.cesO (by first | assumption | omega) | exact hS.cepO (by first | assumption | omega) | exact ⟨_, (by first | assumption | exact hS.st | exact hS.mo | exact hS.out | exact hS.sb | exact hS.ce (by first | assumption | omega) | exact hS.ceb (by first | assumption | omega) | exact hS.sh (by first | assumption | omega) | exact hS.shb (by first | assumption | omega) | exact hS.pl (by first | assumption | omega) | exact hS.plb (by first | assumption | omega) | exact hS.fl (by first | assumption | omega) | exact gup_s | (refine gup_t (by assumption) ?_; first | assumption | exact gup_s | (refine gup_t (by assumption) ?_; first | assumption | exact gup_s | (refine gup_t (by assumption) ?_; first | assumption | exact gup_s))))⟩) rfl (k_isCell h0 hS (by assumption) hW) (Nat.le_of_ble_eq_true rfl) (Nat.le_of_ble_eq_true rfl) (Nat.le_of_ble_eq_true rfl) (Nat.le_of_ble_eq_true rfl) (Nat.le_of_ble_eq_true rfl) ?_
  first | refine ri_ifB_eq h 17 d_Md_polygon_6 (by decide) (fun c_6 => ?_) (fun c_6 => ?_) | refine ri_ifN_eq h 17 d_Md_polygon_6 (by decide) (by omega) (fun c_6 => ?_) (fun c_6 => ?_) | refine ri_if_eq h 17 d_Md_polygon_6 (by decide) (fun c_6 => ?_) (fun c_6 => ?_)
  · first
    | (exfalso; first | exact absurd c_6 (by decide) | first | contradiction | omega)
    | (refine ri_iconstN h 1 d_Md_polygon_17 rfl ?_
       refine ri_goto h 35 d_Md_polygon_18 (by decide) ?_
       refine ri_pm_code h d_Md_polygon_35 fl_Md_108 hS (fun M hS => ?_)
       refine ri_aload_n h d_Md_polygon_38 rfl ?_
       refine ri_get h d_Md_polygon_39 fl_Md_108 (by first | assumption | exact hS.mo | exact gup_s) (by rfl) ?_
       try dsimp only [MS.code, MS.set_code]
       first | refine ri_ifN_le h 49 d_Md_polygon_42 (by decide) (by omega) (fun c_42 => ?_) (fun c_42 => ?_) | refine ri_if_le h 49 d_Md_polygon_42 (by decide) (fun c_42 => ?_) (fun c_42 => ?_)
       · first
         | (exfalso; first | exact absurd c_42 (by decide) | first | contradiction | omega)
         | (refine ri_aload_n h d_Md_polygon_49 rfl ?_
            refine ri_iload_n h d_Md_polygon_50 rfl ?_
            refine ri_iload_n h d_Md_polygon_51 rfl ?_
            refine ri_lconst h 0 d_Md_polygon_52 rfl ?_
            refine ri_iconstN h 0 d_Md_polygon_53 rfl ?_
            omega)
       · first
         | (exfalso; first | exact absurd c_42 (by decide) | first | contradiction | omega)
         | (refine ri_iconstN h 0 d_Md_polygon_45 rfl ?_
            refine ri_goto h 57 d_Md_polygon_46 (by decide) ?_
            refine ri_ireturn h d_Md_polygon_57 (Nat.le_of_ble_eq_true rfl) (Nat.le_of_ble_eq_true rfl) ?_
            exact ⟨rfl, _, hS, rfl⟩))
  · first
    | (exfalso; first | exact absurd c_6 (by decide) | first | contradiction | omega)
    | (refine ri_aload_n h d_Md_polygon_9 rfl ?_
       refine ri_iload_n h d_Md_polygon_10 rfl ?_
       refine ri_cVv_1 (r := (gR6, gT6, 44)) h d_Md_polygon_11 cv_Md_125 (by first | exact hS.lcO | exact hS.lsO | exact hS.lpO | exact hS.cesO (by first | assumption | omega) | exact hS.cepO (by first | assumption | omega) | exact ⟨_, (by first | assumption | exact hS.st | exact hS.mo | exact hS.out | exact hS.sb | exact hS.ce (by first | assumption | omega) | exact hS.ceb (by first | assumption | omega) | exact hS.sh (by first | assumption | omega) | exact hS.shb (by first | assumption | omega) | exact hS.pl (by first | assumption | omega) | exact hS.plb (by first | assumption | omega) | exact hS.fl (by first | assumption | omega) | exact gup_s | (refine gup_t (by assumption) ?_; first | assumption | exact gup_s | (refine gup_t (by assumption) ?_; first | assumption | exact gup_s | (refine gup_t (by assumption) ?_; first | assumption | exact gup_s))))⟩) rfl (k_isLayer h0 hS (by assumption)) (Nat.le_of_ble_eq_true rfl) (Nat.le_of_ble_eq_true rfl) (Nat.le_of_ble_eq_true rfl) (Nat.le_of_ble_eq_true rfl) (Nat.le_of_ble_eq_true rfl) ?_
       first | refine ri_ifB_ne h 21 d_Md_polygon_14 (by decide) (fun c_14 => ?_) (fun c_14 => ?_) | refine ri_ifN_ne h 21 d_Md_polygon_14 (by decide) (by omega) (fun c_14 => ?_) (fun c_14 => ?_) | refine ri_if_ne h 21 d_Md_polygon_14 (by decide) (fun c_14 => ?_) (fun c_14 => ?_)
       · first
         | (exfalso; first | exact absurd c_14 (by decide) | first | contradiction | omega)
         | (refine ri_aload_n h d_Md_polygon_21 rfl ?_
            refine ri_get h d_Md_polygon_22 fl_Md_118 (by first | assumption | exact hS.mo | exact gup_s) (by rfl) ?_
            refine ri_bipushN h 120 d_Md_polygon_25 rfl ?_
            first | refine ri_icmpN_ne h 34 d_Md_polygon_27 (by decide) (by omega) (by omega) (fun c_27 => ?_) (fun c_27 => ?_) | refine ri_icmp_ne h 34 d_Md_polygon_27 (by decide) (fun c_27 => ?_) (fun c_27 => ?_)
            · first
              | (exfalso; first | exact absurd c_27 (by decide) | first | contradiction | omega)
              | (refine ri_iconstN h 0 d_Md_polygon_34 rfl ?_
                 refine ri_pm_code h d_Md_polygon_35 fl_Md_108 hS (fun M hS => ?_)
                 refine ri_aload_n h d_Md_polygon_38 rfl ?_
                 refine ri_get h d_Md_polygon_39 fl_Md_108 (by first | assumption | exact hS.mo | exact gup_s) (by rfl) ?_
                 try dsimp only [MS.code, MS.set_code]
                 first | refine ri_ifN_le h 49 d_Md_polygon_42 (by decide) (by omega) (fun c_42 => ?_) (fun c_42 => ?_) | refine ri_if_le h 49 d_Md_polygon_42 (by decide) (fun c_42 => ?_) (fun c_42 => ?_)
                 · first
                   | (exfalso; first | exact absurd c_42 (by decide) | first | contradiction | omega)
                   | (refine ri_aload_n h d_Md_polygon_49 rfl ?_
                      refine ri_iload_n h d_Md_polygon_50 rfl ?_
                      refine ri_iload_n h d_Md_polygon_51 rfl ?_
                      refine ri_lconst h 0 d_Md_polygon_52 rfl ?_
                      refine ri_iconstN h 0 d_Md_polygon_53 rfl ?_
                      omega)
                 · first
                   | (exfalso; first | exact absurd c_42 (by decide) | first | contradiction | omega)
                   | (refine ri_iconstN h 0 d_Md_polygon_45 rfl ?_
                      refine ri_goto h 57 d_Md_polygon_46 (by decide) ?_
                      refine ri_ireturn h d_Md_polygon_57 (Nat.le_of_ble_eq_true rfl) (Nat.le_of_ble_eq_true rfl) ?_
                      exact ⟨rfl, _, hS, rfl⟩))
            · first
              | (exfalso; first | exact absurd c_27 (by decide) | first | contradiction | omega)
              | (refine ri_iconstN h 2 d_Md_polygon_30 rfl ?_
                 refine ri_goto h 35 d_Md_polygon_31 (by decide) ?_
                 refine ri_pm_code h d_Md_polygon_35 fl_Md_108 hS (fun M hS => ?_)
                 refine ri_aload_n h d_Md_polygon_38 rfl ?_
                 refine ri_get h d_Md_polygon_39 fl_Md_108 (by first | assumption | exact hS.mo | exact gup_s) (by rfl) ?_
                 try dsimp only [MS.code, MS.set_code]
                 first | refine ri_ifN_le h 49 d_Md_polygon_42 (by decide) (by omega) (fun c_42 => ?_) (fun c_42 => ?_) | refine ri_if_le h 49 d_Md_polygon_42 (by decide) (fun c_42 => ?_) (fun c_42 => ?_)
                 · first
                   | (exfalso; first | exact absurd c_42 (by decide) | first | contradiction | omega)
                   | (refine ri_aload_n h d_Md_polygon_49 rfl ?_
                      refine ri_iload_n h d_Md_polygon_50 rfl ?_
                      refine ri_iload_n h d_Md_polygon_51 rfl ?_
                      refine ri_lconst h 0 d_Md_polygon_52 rfl ?_
                      refine ri_iconstN h 0 d_Md_polygon_53 rfl ?_
                      omega)
                 · first
                   | (exfalso; first | exact absurd c_42 (by decide) | first | contradiction | omega)
                   | (refine ri_iconstN h 0 d_Md_polygon_45 rfl ?_
                      refine ri_goto h 57 d_Md_polygon_46 (by decide) ?_
                      refine ri_ireturn h d_Md_polygon_57 (Nat.le_of_ble_eq_true rfl) (Nat.le_of_ble_eq_true rfl) ?_
                      exact ⟨rfl, _, hS, rfl⟩)))
       · first
         | (exfalso; first | exact absurd c_14 (by decide) | first | contradiction | omega)
         | (refine ri_iconstN h 1 d_Md_polygon_17 rfl ?_
            refine ri_goto h 35 d_Md_polygon_18 (by decide) ?_
            refine ri_pm_code h d_Md_polygon_35 fl_Md_108 hS (fun M hS => ?_)
            refine ri_aload_n h d_Md_polygon_38 rfl ?_
            refine ri_get h d_Md_polygon_39 fl_Md_108 (by first | assumption | exact hS.mo | exact gup_s) (by rfl) ?_
            try dsimp only [MS.code, MS.set_code]
            first | refine ri_ifN_le h 49 d_Md_polygon_42 (by decide) (by omega) (fun c_42 => ?_) (fun c_42 => ?_) | refine ri_if_le h 49 d_Md_polygon_42 (by decide) (fun c_42 => ?_) (fun c_42 => ?_)
            · first
              | (exfalso; first | exact absurd c_42 (by decide) | first | contradiction | omega)
              | (refine ri_aload_n h d_Md_polygon_49 rfl ?_
                 refine ri_iload_n h d_Md_polygon_50 rfl ?_
                 refine ri_iload_n h d_Md_polygon_51 rfl ?_
                 refine ri_lconst h 0 d_Md_polygon_52 rfl ?_
                 refine ri_iconstN h 0 d_Md_polygon_53 rfl ?_
                 omega)
            · first
              | (exfalso; first | exact absurd c_42 (by decide) | first | contradiction | omega)
              | (refine ri_iconstN h 0 d_Md_polygon_45 rfl ?_
                 refine ri_goto h 57 d_Md_polygon_46 (by decide) ?_
                 refine ri_ireturn h d_Md_polygon_57 (Nat.le_of_ble_eq_true rfl) (Nat.le_of_ble_eq_true rfl) ?_
                 exact ⟨rfl, _, hS, rfl⟩)))
theorem k_mpath_ok (h0 : g_0 l D s0) (hS : HS z ad Qc N M) (hm : MR Q N) (hW : WB Q) (hc : c < Q.nC) {v : Int32} (hv : ¬ v < 0 ∧ v < Q.L) (hn : Q.nS < 120) {w : Int64} {e : Int32} (hw : wideB w) (he : ¬ e < 0 ∧ e ≤ 1) : Ct l D s0 y_Md_path (Cond.code y_Md_path b_Md_path 6 (some .int)) rkM [.ref (ad 30 0), .int (nI c), .int v, .long w, .int e] M (fM z ad Qc (some (.int (nI Q.nS))) (fun N' => N' = shN (N.set_code 0) (nI c) v w e)) := by
  rw [← hm.ns] at hn ⊢
  have hc : ∃ c', c' < Q.nC ∧ nI c = nI c' := ⟨c, hc, rfl⟩
  obtain ⟨w1, w2, w3⟩ := hw
  obtain ⟨e1, e2⟩ := he
  refine Ct.of h0 (by decide +kernel) rfl fun X hX h => ?_
  obtain ⟨p_, l', e_, R_, s_, m_, ar_, be_, me_, c_⟩ := X
  obtain rfl : l' = l := hX
  refine ri_aload_n h d_Md_path_0 rfl ?_
  refine ri_aload_n h d_Md_path_1 rfl ?_
  refine ri_iload_n h d_Md_path_2 rfl ?_
  refine ri_cVv_1 (r := (gR6, gT6, 44)) h d_Md_path_3 cv_Md_121 (by first | exact hS.lcO | exact hS.lsO | exact hS.lpO | exact hS.cesO (by first | assumption | omega) | exact hS.cepO (by first | assumption | omega) | exact ⟨_, (by first | assumption | exact hS.st | exact hS.mo | exact hS.out | exact hS.sb | exact hS.ce (by first | assumption | omega) | exact hS.ceb (by first | assumption | omega) | exact hS.sh (by first | assumption | omega) | exact hS.shb (by first | assumption | omega) | exact hS.pl (by first | assumption | omega) | exact hS.plb (by first | assumption | omega) | exact hS.fl (by first | assumption | omega) | exact gup_s | (refine gup_t (by assumption) ?_; first | assumption | exact gup_s | (refine gup_t (by assumption) ?_; first | assumption | exact gup_s | (refine gup_t (by assumption) ?_; first | assumption | exact gup_s))))⟩) rfl (k_isCell h0 hS (by assumption) hW) (Nat.le_of_ble_eq_true rfl) (Nat.le_of_ble_eq_true rfl) (Nat.le_of_ble_eq_true rfl) (Nat.le_of_ble_eq_true rfl) (Nat.le_of_ble_eq_true rfl) ?_
  first | refine ri_ifB_eq h 17 d_Md_path_6 (by decide) (fun c_6 => ?_) (fun c_6 => ?_) | refine ri_ifN_eq h 17 d_Md_path_6 (by decide) (by omega) (fun c_6 => ?_) (fun c_6 => ?_) | refine ri_if_eq h 17 d_Md_path_6 (by decide) (fun c_6 => ?_) (fun c_6 => ?_)
  · first
    | (exfalso; first | exact absurd c_6 (by decide) | first | contradiction | omega)
    | (refine ri_iconstN h 1 d_Md_path_17 rfl ?_
       refine ri_goto h 76 d_Md_path_18 (by decide) ?_
       refine ri_pm_code h d_Md_path_76 fl_Md_108 hS (fun M hS => ?_)
       refine ri_aload_n h d_Md_path_79 rfl ?_
       refine ri_get h d_Md_path_80 fl_Md_108 (by first | assumption | exact hS.mo | exact gup_s) (by rfl) ?_
       try dsimp only [MS.code, MS.set_code]
       first | refine ri_ifN_le h 90 d_Md_path_83 (by decide) (by omega) (fun c_83 => ?_) (fun c_83 => ?_) | refine ri_if_le h 90 d_Md_path_83 (by decide) (fun c_83 => ?_) (fun c_83 => ?_)
       · first
         | (exfalso; first | exact absurd c_83 (by decide) | first | contradiction | omega)
         | (refine ri_aload_n h d_Md_path_90 rfl ?_
            refine ri_iload_n h d_Md_path_91 rfl ?_
            refine ri_iload_n h d_Md_path_92 rfl ?_
            refine ri_lload_n h d_Md_path_93 rfl ?_
            refine ri_iload h d_Md_path_94 rfl ?_
            refine ri_dVv_4 (r := (gR6, gT6, 44)) h d_Md_path_96 cv_Md_128 (by first | exact hS.lcO | exact hS.lsO | exact hS.lpO | exact hS.cesO (by first | assumption | omega) | exact hS.cepO (by first | assumption | omega) | exact ⟨_, (by first | assumption | exact hS.st | exact hS.mo | exact hS.out | exact hS.sb | exact hS.ce (by first | assumption | omega) | exact hS.ceb (by first | assumption | omega) | exact hS.sh (by first | assumption | omega) | exact hS.shb (by first | assumption | omega) | exact hS.pl (by first | assumption | omega) | exact hS.plb (by first | assumption | omega) | exact hS.fl (by first | assumption | omega) | exact gup_s | (refine gup_t (by assumption) ?_; first | assumption | exact gup_s | (refine gup_t (by assumption) ?_; first | assumption | exact gup_s | (refine gup_t (by assumption) ?_; first | assumption | exact gup_s))))⟩) rfl (k_mshape h0 hS hn) (Nat.le_of_ble_eq_true rfl) (Nat.le_of_ble_eq_true rfl) (Nat.le_of_ble_eq_true rfl) (Nat.le_of_ble_eq_true rfl) (Nat.le_of_ble_eq_true rfl) (fun M hS => ?_)
            obtain ⟨N', hS, rfl⟩ := hS
            refine ri_ireturn h d_Md_path_99 (Nat.le_of_ble_eq_true rfl) (Nat.le_of_ble_eq_true rfl) ?_
            exact ⟨rfl, _, hS, rfl⟩)
       · first
         | (exfalso; first | exact absurd c_83 (by decide) | first | contradiction | omega)
         | (refine ri_iconstN h 0 d_Md_path_86 rfl ?_
            refine ri_goto h 99 d_Md_path_87 (by decide) ?_
            refine ri_ireturn h d_Md_path_99 (Nat.le_of_ble_eq_true rfl) (Nat.le_of_ble_eq_true rfl) ?_
            exact ⟨rfl, rfl⟩))
  · first
    | (exfalso; first | exact absurd c_6 (by decide) | first | contradiction | omega)
    | (refine ri_aload_n h d_Md_path_9 rfl ?_
       refine ri_iload_n h d_Md_path_10 rfl ?_
       refine ri_cVv_1 (r := (gR6, gT6, 44)) h d_Md_path_11 cv_Md_125 (by first | exact hS.lcO | exact hS.lsO | exact hS.lpO | exact hS.cesO (by first | assumption | omega) | exact hS.cepO (by first | assumption | omega) | exact ⟨_, (by first | assumption | exact hS.st | exact hS.mo | exact hS.out | exact hS.sb | exact hS.ce (by first | assumption | omega) | exact hS.ceb (by first | assumption | omega) | exact hS.sh (by first | assumption | omega) | exact hS.shb (by first | assumption | omega) | exact hS.pl (by first | assumption | omega) | exact hS.plb (by first | assumption | omega) | exact hS.fl (by first | assumption | omega) | exact gup_s | (refine gup_t (by assumption) ?_; first | assumption | exact gup_s | (refine gup_t (by assumption) ?_; first | assumption | exact gup_s | (refine gup_t (by assumption) ?_; first | assumption | exact gup_s))))⟩) rfl (k_isLayer h0 hS (by assumption)) (Nat.le_of_ble_eq_true rfl) (Nat.le_of_ble_eq_true rfl) (Nat.le_of_ble_eq_true rfl) (Nat.le_of_ble_eq_true rfl) (Nat.le_of_ble_eq_true rfl) ?_
       first | refine ri_ifB_ne h 21 d_Md_path_14 (by decide) (fun c_14 => ?_) (fun c_14 => ?_) | refine ri_ifN_ne h 21 d_Md_path_14 (by decide) (by omega) (fun c_14 => ?_) (fun c_14 => ?_) | refine ri_if_ne h 21 d_Md_path_14 (by decide) (fun c_14 => ?_) (fun c_14 => ?_)
       · first
         | (exfalso; first | exact absurd c_14 (by decide) | first | contradiction | omega)
         | (refine ri_aload_n h d_Md_path_21 rfl ?_
            refine ri_get h d_Md_path_22 fl_Md_118 (by first | assumption | exact hS.mo | exact gup_s) (by rfl) ?_
            refine ri_bipushN h 120 d_Md_path_25 rfl ?_
            first | refine ri_icmpN_ne h 34 d_Md_path_27 (by decide) (by omega) (by omega) (fun c_27 => ?_) (fun c_27 => ?_) | refine ri_icmp_ne h 34 d_Md_path_27 (by decide) (fun c_27 => ?_) (fun c_27 => ?_)
            · first
              | (exfalso; first | exact absurd c_27 (by decide) | first | contradiction | omega)
              | (refine ri_lload_n h d_Md_path_34 rfl ?_
                 refine ri_ldc2 h 2 d_Md_path_35 kl_Md_132 ?_
                 refine ri_lcmp_lt h 71 d_Md_path_38 d_Md_path_39 (by decide) (fun c_38 => ?_) (fun c_38 => ?_)
                 · first
                   | (exfalso; first | exact absurd c_38 (by decide) | first | contradiction | omega)
                   | (refine ri_iconstN h 3 d_Md_path_71 rfl ?_
                      refine ri_goto h 76 d_Md_path_72 (by decide) ?_
                      refine ri_pm_code h d_Md_path_76 fl_Md_108 hS (fun M hS => ?_)
                      refine ri_aload_n h d_Md_path_79 rfl ?_
                      refine ri_get h d_Md_path_80 fl_Md_108 (by first | assumption | exact hS.mo | exact gup_s) (by rfl) ?_
                      try dsimp only [MS.code, MS.set_code]
                      first | refine ri_ifN_le h 90 d_Md_path_83 (by decide) (by omega) (fun c_83 => ?_) (fun c_83 => ?_) | refine ri_if_le h 90 d_Md_path_83 (by decide) (fun c_83 => ?_) (fun c_83 => ?_)
                      · first
                        | (exfalso; first | exact absurd c_83 (by decide) | first | contradiction | omega)
                        | (refine ri_aload_n h d_Md_path_90 rfl ?_
                           refine ri_iload_n h d_Md_path_91 rfl ?_
                           refine ri_iload_n h d_Md_path_92 rfl ?_
                           refine ri_lload_n h d_Md_path_93 rfl ?_
                           refine ri_iload h d_Md_path_94 rfl ?_
                           refine ri_dVv_4 (r := (gR6, gT6, 44)) h d_Md_path_96 cv_Md_128 (by first | exact hS.lcO | exact hS.lsO | exact hS.lpO | exact hS.cesO (by first | assumption | omega) | exact hS.cepO (by first | assumption | omega) | exact ⟨_, (by first | assumption | exact hS.st | exact hS.mo | exact hS.out | exact hS.sb | exact hS.ce (by first | assumption | omega) | exact hS.ceb (by first | assumption | omega) | exact hS.sh (by first | assumption | omega) | exact hS.shb (by first | assumption | omega) | exact hS.pl (by first | assumption | omega) | exact hS.plb (by first | assumption | omega) | exact hS.fl (by first | assumption | omega) | exact gup_s | (refine gup_t (by assumption) ?_; first | assumption | exact gup_s | (refine gup_t (by assumption) ?_; first | assumption | exact gup_s | (refine gup_t (by assumption) ?_; first | assumption | exact gup_s))))⟩) rfl (k_mshape h0 hS hn) (Nat.le_of_ble_eq_true rfl) (Nat.le_of_ble_eq_true rfl) (Nat.le_of_ble_eq_true rfl) (Nat.le_of_ble_eq_true rfl) (Nat.le_of_ble_eq_true rfl) (fun M hS => ?_)
                           obtain ⟨N', hS, rfl⟩ := hS
                           refine ri_ireturn h d_Md_path_99 (Nat.le_of_ble_eq_true rfl) (Nat.le_of_ble_eq_true rfl) ?_
                           exact ⟨rfl, _, hS, rfl⟩)
                      · first
                        | (exfalso; first | exact absurd c_83 (by decide) | first | contradiction | omega)
                        | (refine ri_iconstN h 0 d_Md_path_86 rfl ?_
                           refine ri_goto h 99 d_Md_path_87 (by decide) ?_
                           refine ri_ireturn h d_Md_path_99 (Nat.le_of_ble_eq_true rfl) (Nat.le_of_ble_eq_true rfl) ?_
                           exact ⟨rfl, rfl⟩))
                 · first
                   | (exfalso; first | exact absurd c_38 (by decide) | first | contradiction | omega)
                   | (refine ri_lload_n h d_Md_path_42 rfl ?_
                      refine ri_ldc2 h 1000 d_Md_path_43 kl_Md_134 ?_
                      refine ri_lcmp_gt h 71 d_Md_path_46 d_Md_path_47 (by decide) (fun c_46 => ?_) (fun c_46 => ?_)
                      · first
                        | (exfalso; first | exact absurd c_46 (by decide) | first | contradiction | omega)
                        | (refine ri_iconstN h 3 d_Md_path_71 rfl ?_
                           refine ri_goto h 76 d_Md_path_72 (by decide) ?_
                           refine ri_pm_code h d_Md_path_76 fl_Md_108 hS (fun M hS => ?_)
                           refine ri_aload_n h d_Md_path_79 rfl ?_
                           refine ri_get h d_Md_path_80 fl_Md_108 (by first | assumption | exact hS.mo | exact gup_s) (by rfl) ?_
                           try dsimp only [MS.code, MS.set_code]
                           first | refine ri_ifN_le h 90 d_Md_path_83 (by decide) (by omega) (fun c_83 => ?_) (fun c_83 => ?_) | refine ri_if_le h 90 d_Md_path_83 (by decide) (fun c_83 => ?_) (fun c_83 => ?_)
                           · first
                             | (exfalso; first | exact absurd c_83 (by decide) | first | contradiction | omega)
                             | (refine ri_aload_n h d_Md_path_90 rfl ?_
                                refine ri_iload_n h d_Md_path_91 rfl ?_
                                refine ri_iload_n h d_Md_path_92 rfl ?_
                                refine ri_lload_n h d_Md_path_93 rfl ?_
                                refine ri_iload h d_Md_path_94 rfl ?_
                                refine ri_dVv_4 (r := (gR6, gT6, 44)) h d_Md_path_96 cv_Md_128 (by first | exact hS.lcO | exact hS.lsO | exact hS.lpO | exact hS.cesO (by first | assumption | omega) | exact hS.cepO (by first | assumption | omega) | exact ⟨_, (by first | assumption | exact hS.st | exact hS.mo | exact hS.out | exact hS.sb | exact hS.ce (by first | assumption | omega) | exact hS.ceb (by first | assumption | omega) | exact hS.sh (by first | assumption | omega) | exact hS.shb (by first | assumption | omega) | exact hS.pl (by first | assumption | omega) | exact hS.plb (by first | assumption | omega) | exact hS.fl (by first | assumption | omega) | exact gup_s | (refine gup_t (by assumption) ?_; first | assumption | exact gup_s | (refine gup_t (by assumption) ?_; first | assumption | exact gup_s | (refine gup_t (by assumption) ?_; first | assumption | exact gup_s))))⟩) rfl (k_mshape h0 hS hn) (Nat.le_of_ble_eq_true rfl) (Nat.le_of_ble_eq_true rfl) (Nat.le_of_ble_eq_true rfl) (Nat.le_of_ble_eq_true rfl) (Nat.le_of_ble_eq_true rfl) (fun M hS => ?_)
                                obtain ⟨N', hS, rfl⟩ := hS
                                refine ri_ireturn h d_Md_path_99 (Nat.le_of_ble_eq_true rfl) (Nat.le_of_ble_eq_true rfl) ?_
                                exact ⟨rfl, _, hS, rfl⟩)
                           · first
                             | (exfalso; first | exact absurd c_83 (by decide) | first | contradiction | omega)
                             | (refine ri_iconstN h 0 d_Md_path_86 rfl ?_
                                refine ri_goto h 99 d_Md_path_87 (by decide) ?_
                                refine ri_ireturn h d_Md_path_99 (Nat.le_of_ble_eq_true rfl) (Nat.le_of_ble_eq_true rfl) ?_
                                exact ⟨rfl, rfl⟩))
                      · first
                        | (exfalso; first | exact absurd c_46 (by decide) | first | contradiction | omega)
                        | (refine ri_lload_n h d_Md_path_50 rfl ?_
                           refine ri_ldc2 h 2 d_Md_path_51 kl_Md_132 ?_
                           refine ri_lrem h d_Md_path_54 (by decide) ?_
                           refine ri_lconst h 0 d_Md_path_55 rfl ?_
                           refine ri_lcmp_ne h 71 d_Md_path_56 d_Md_path_57 (by decide) (fun c_56 => ?_) (fun c_56 => ?_)
                           · first
                             | (exfalso; first | exact absurd c_56 (by decide) | first | contradiction | omega)
                             | (refine ri_iconstN h 3 d_Md_path_71 rfl ?_
                                refine ri_goto h 76 d_Md_path_72 (by decide) ?_
                                refine ri_pm_code h d_Md_path_76 fl_Md_108 hS (fun M hS => ?_)
                                refine ri_aload_n h d_Md_path_79 rfl ?_
                                refine ri_get h d_Md_path_80 fl_Md_108 (by first | assumption | exact hS.mo | exact gup_s) (by rfl) ?_
                                try dsimp only [MS.code, MS.set_code]
                                first | refine ri_ifN_le h 90 d_Md_path_83 (by decide) (by omega) (fun c_83 => ?_) (fun c_83 => ?_) | refine ri_if_le h 90 d_Md_path_83 (by decide) (fun c_83 => ?_) (fun c_83 => ?_)
                                · first
                                  | (exfalso; first | exact absurd c_83 (by decide) | first | contradiction | omega)
                                  | (refine ri_aload_n h d_Md_path_90 rfl ?_
                                     refine ri_iload_n h d_Md_path_91 rfl ?_
                                     refine ri_iload_n h d_Md_path_92 rfl ?_
                                     refine ri_lload_n h d_Md_path_93 rfl ?_
                                     refine ri_iload h d_Md_path_94 rfl ?_
                                     refine ri_dVv_4 (r := (gR6, gT6, 44)) h d_Md_path_96 cv_Md_128 (by first | exact hS.lcO | exact hS.lsO | exact hS.lpO | exact hS.cesO (by first | assumption | omega) | exact hS.cepO (by first | assumption | omega) | exact ⟨_, (by first | assumption | exact hS.st | exact hS.mo | exact hS.out | exact hS.sb | exact hS.ce (by first | assumption | omega) | exact hS.ceb (by first | assumption | omega) | exact hS.sh (by first | assumption | omega) | exact hS.shb (by first | assumption | omega) | exact hS.pl (by first | assumption | omega) | exact hS.plb (by first | assumption | omega) | exact hS.fl (by first | assumption | omega) | exact gup_s | (refine gup_t (by assumption) ?_; first | assumption | exact gup_s | (refine gup_t (by assumption) ?_; first | assumption | exact gup_s | (refine gup_t (by assumption) ?_; first | assumption | exact gup_s))))⟩) rfl (k_mshape h0 hS hn) (Nat.le_of_ble_eq_true rfl) (Nat.le_of_ble_eq_true rfl) (Nat.le_of_ble_eq_true rfl) (Nat.le_of_ble_eq_true rfl) (Nat.le_of_ble_eq_true rfl) (fun M hS => ?_)
                                     obtain ⟨N', hS, rfl⟩ := hS
                                     refine ri_ireturn h d_Md_path_99 (Nat.le_of_ble_eq_true rfl) (Nat.le_of_ble_eq_true rfl) ?_
                                     exact ⟨rfl, _, hS, rfl⟩)
                                · first
                                  | (exfalso; first | exact absurd c_83 (by decide) | first | contradiction | omega)
                                  | (refine ri_iconstN h 0 d_Md_path_86 rfl ?_
                                     refine ri_goto h 99 d_Md_path_87 (by decide) ?_
                                     refine ri_ireturn h d_Md_path_99 (Nat.le_of_ble_eq_true rfl) (Nat.le_of_ble_eq_true rfl) ?_
                                     exact ⟨rfl, rfl⟩))
                           · first
                             | (exfalso; first | exact absurd c_56 (by decide) | first | contradiction | omega)
                             | (refine ri_iload h d_Md_path_60 rfl ?_
                                refine ri_if_lt h 71 d_Md_path_62 (by decide) (fun c_62 => ?_) (fun c_62 => ?_)
                                · first
                                  | (exfalso; first | exact absurd c_62 (by decide) | first | contradiction | omega)
                                  | (refine ri_iconstN h 3 d_Md_path_71 rfl ?_
                                     refine ri_goto h 76 d_Md_path_72 (by decide) ?_
                                     refine ri_pm_code h d_Md_path_76 fl_Md_108 hS (fun M hS => ?_)
                                     refine ri_aload_n h d_Md_path_79 rfl ?_
                                     refine ri_get h d_Md_path_80 fl_Md_108 (by first | assumption | exact hS.mo | exact gup_s) (by rfl) ?_
                                     try dsimp only [MS.code, MS.set_code]
                                     first | refine ri_ifN_le h 90 d_Md_path_83 (by decide) (by omega) (fun c_83 => ?_) (fun c_83 => ?_) | refine ri_if_le h 90 d_Md_path_83 (by decide) (fun c_83 => ?_) (fun c_83 => ?_)
                                     · first
                                       | (exfalso; first | exact absurd c_83 (by decide) | first | contradiction | omega)
                                       | (refine ri_aload_n h d_Md_path_90 rfl ?_
                                          refine ri_iload_n h d_Md_path_91 rfl ?_
                                          refine ri_iload_n h d_Md_path_92 rfl ?_
                                          refine ri_lload_n h d_Md_path_93 rfl ?_
                                          refine ri_iload h d_Md_path_94 rfl ?_
                                          refine ri_dVv_4 (r := (gR6, gT6, 44)) h d_Md_path_96 cv_Md_128 (by first | exact hS.lcO | exact hS.lsO | exact hS.lpO | exact hS.cesO (by first | assumption | omega) | exact hS.cepO (by first | assumption | omega) | exact ⟨_, (by first | assumption | exact hS.st | exact hS.mo | exact hS.out | exact hS.sb | exact hS.ce (by first | assumption | omega) | exact hS.ceb (by first | assumption | omega) | exact hS.sh (by first | assumption | omega) | exact hS.shb (by first | assumption | omega) | exact hS.pl (by first | assumption | omega) | exact hS.plb (by first | assumption | omega) | exact hS.fl (by first | assumption | omega) | exact gup_s | (refine gup_t (by assumption) ?_; first | assumption | exact gup_s | (refine gup_t (by assumption) ?_; first | assumption | exact gup_s | (refine gup_t (by assumption) ?_; first | assumption | exact gup_s))))⟩) rfl (k_mshape h0 hS hn) (Nat.le_of_ble_eq_true rfl) (Nat.le_of_ble_eq_true rfl) (Nat.le_of_ble_eq_true rfl) (Nat.le_of_ble_eq_true rfl) (Nat.le_of_ble_eq_true rfl) (fun M hS => ?_)
                                          obtain ⟨N', hS, rfl⟩ := hS
                                          refine ri_ireturn h d_Md_path_99 (Nat.le_of_ble_eq_true rfl) (Nat.le_of_ble_eq_true rfl) ?_
                                          exact ⟨rfl, _, hS, rfl⟩)
                                     · first
                                       | (exfalso; first | exact absurd c_83 (by decide) | first | contradiction | omega)
                                       | (refine ri_iconstN h 0 d_Md_path_86 rfl ?_
                                          refine ri_goto h 99 d_Md_path_87 (by decide) ?_
                                          refine ri_ireturn h d_Md_path_99 (Nat.le_of_ble_eq_true rfl) (Nat.le_of_ble_eq_true rfl) ?_
                                          exact ⟨rfl, rfl⟩))
                                · first
                                  | (exfalso; first | exact absurd c_62 (by decide) | first | contradiction | omega)
                                  | (refine ri_iload h d_Md_path_65 rfl ?_
                                     refine ri_iconstN h 1 d_Md_path_67 rfl ?_
                                     refine ri_icmp_le h 75 d_Md_path_68 (by decide) (fun c_68 => ?_) (fun c_68 => ?_)
                                     · first
                                       | (exfalso; first | exact absurd c_68 (by decide) | first | contradiction | omega)
                                       | (refine ri_iconstN h 0 d_Md_path_75 rfl ?_
                                          refine ri_pm_code h d_Md_path_76 fl_Md_108 hS (fun M hS => ?_)
                                          refine ri_aload_n h d_Md_path_79 rfl ?_
                                          refine ri_get h d_Md_path_80 fl_Md_108 (by first | assumption | exact hS.mo | exact gup_s) (by rfl) ?_
                                          try dsimp only [MS.code, MS.set_code]
                                          first | refine ri_ifN_le h 90 d_Md_path_83 (by decide) (by omega) (fun c_83 => ?_) (fun c_83 => ?_) | refine ri_if_le h 90 d_Md_path_83 (by decide) (fun c_83 => ?_) (fun c_83 => ?_)
                                          · first
                                            | (exfalso; first | exact absurd c_83 (by decide) | first | contradiction | omega)
                                            | (refine ri_aload_n h d_Md_path_90 rfl ?_
                                               refine ri_iload_n h d_Md_path_91 rfl ?_
                                               refine ri_iload_n h d_Md_path_92 rfl ?_
                                               refine ri_lload_n h d_Md_path_93 rfl ?_
                                               refine ri_iload h d_Md_path_94 rfl ?_
                                               refine ri_dVv_4 (r := (gR6, gT6, 44)) h d_Md_path_96 cv_Md_128 (by first | exact hS.lcO | exact hS.lsO | exact hS.lpO | exact hS.cesO (by first | assumption | omega) | exact hS.cepO (by first | assumption | omega) | exact ⟨_, (by first | assumption | exact hS.st | exact hS.mo | exact hS.out | exact hS.sb | exact hS.ce (by first | assumption | omega) | exact hS.ceb (by first | assumption | omega) | exact hS.sh (by first | assumption | omega) | exact hS.shb (by first | assumption | omega) | exact hS.pl (by first | assumption | omega) | exact hS.plb (by first | assumption | omega) | exact hS.fl (by first | assumption | omega) | exact gup_s | (refine gup_t (by assumption) ?_; first | assumption | exact gup_s | (refine gup_t (by assumption) ?_; first | assumption | exact gup_s | (refine gup_t (by assumption) ?_; first | assumption | exact gup_s))))⟩) rfl (k_mshape h0 hS hn) (Nat.le_of_ble_eq_true rfl) (Nat.le_of_ble_eq_true rfl) (Nat.le_of_ble_eq_true rfl) (Nat.le_of_ble_eq_true rfl) (Nat.le_of_ble_eq_true rfl) (fun M hS => ?_)
                                               obtain ⟨N', hS, rfl⟩ := hS
                                               refine ri_ireturn h d_Md_path_99 (Nat.le_of_ble_eq_true rfl) (Nat.le_of_ble_eq_true rfl) ?_
                                               exact ⟨rfl, _, hS, rfl⟩)
                                          · first
                                            | (exfalso; first | exact absurd c_83 (by decide) | first | contradiction | omega)
                                            | (refine ri_iconstN h 0 d_Md_path_86 rfl ?_
                                               refine ri_goto h 99 d_Md_path_87 (by decide) ?_
                                               refine ri_ireturn h d_Md_path_99 (Nat.le_of_ble_eq_true rfl) (Nat.le_of_ble_eq_true rfl) ?_
                                               exact ⟨rfl, rfl⟩))
                                     · first
                                       | (exfalso; first | exact absurd c_68 (by decide) | first | contradiction | omega)
                                       | (refine ri_iconstN h 3 d_Md_path_71 rfl ?_
                                          refine ri_goto h 76 d_Md_path_72 (by decide) ?_
                                          refine ri_pm_code h d_Md_path_76 fl_Md_108 hS (fun M hS => ?_)
                                          refine ri_aload_n h d_Md_path_79 rfl ?_
                                          refine ri_get h d_Md_path_80 fl_Md_108 (by first | assumption | exact hS.mo | exact gup_s) (by rfl) ?_
                                          try dsimp only [MS.code, MS.set_code]
                                          first | refine ri_ifN_le h 90 d_Md_path_83 (by decide) (by omega) (fun c_83 => ?_) (fun c_83 => ?_) | refine ri_if_le h 90 d_Md_path_83 (by decide) (fun c_83 => ?_) (fun c_83 => ?_)
                                          · first
                                            | (exfalso; first | exact absurd c_83 (by decide) | first | contradiction | omega)
                                            | (refine ri_aload_n h d_Md_path_90 rfl ?_
                                               refine ri_iload_n h d_Md_path_91 rfl ?_
                                               refine ri_iload_n h d_Md_path_92 rfl ?_
                                               refine ri_lload_n h d_Md_path_93 rfl ?_
                                               refine ri_iload h d_Md_path_94 rfl ?_
                                               refine ri_dVv_4 (r := (gR6, gT6, 44)) h d_Md_path_96 cv_Md_128 (by first | exact hS.lcO | exact hS.lsO | exact hS.lpO | exact hS.cesO (by first | assumption | omega) | exact hS.cepO (by first | assumption | omega) | exact ⟨_, (by first | assumption | exact hS.st | exact hS.mo | exact hS.out | exact hS.sb | exact hS.ce (by first | assumption | omega) | exact hS.ceb (by first | assumption | omega) | exact hS.sh (by first | assumption | omega) | exact hS.shb (by first | assumption | omega) | exact hS.pl (by first | assumption | omega) | exact hS.plb (by first | assumption | omega) | exact hS.fl (by first | assumption | omega) | exact gup_s | (refine gup_t (by assumption) ?_; first | assumption | exact gup_s | (refine gup_t (by assumption) ?_; first | assumption | exact gup_s | (refine gup_t (by assumption) ?_; first | assumption | exact gup_s))))⟩) rfl (k_mshape h0 hS hn) (Nat.le_of_ble_eq_true rfl) (Nat.le_of_ble_eq_true rfl) (Nat.le_of_ble_eq_true rfl) (Nat.le_of_ble_eq_true rfl) (Nat.le_of_ble_eq_true rfl) (fun M hS => ?_)
                                               obtain ⟨N', hS, rfl⟩ := hS
                                               refine ri_ireturn h d_Md_path_99 (Nat.le_of_ble_eq_true rfl) (Nat.le_of_ble_eq_true rfl) ?_
                                               exact ⟨rfl, _, hS, rfl⟩)
                                          · first
                                            | (exfalso; first | exact absurd c_83 (by decide) | first | contradiction | omega)
                                            | (refine ri_iconstN h 0 d_Md_path_86 rfl ?_
                                               refine ri_goto h 99 d_Md_path_87 (by decide) ?_
                                               refine ri_ireturn h d_Md_path_99 (Nat.le_of_ble_eq_true rfl) (Nat.le_of_ble_eq_true rfl) ?_
                                               exact ⟨rfl, rfl⟩)))))))
            · first
              | (exfalso; first | exact absurd c_27 (by decide) | first | contradiction | omega)
              | (refine ri_iconstN h 2 d_Md_path_30 rfl ?_
                 refine ri_goto h 76 d_Md_path_31 (by decide) ?_
                 refine ri_pm_code h d_Md_path_76 fl_Md_108 hS (fun M hS => ?_)
                 refine ri_aload_n h d_Md_path_79 rfl ?_
                 refine ri_get h d_Md_path_80 fl_Md_108 (by first | assumption | exact hS.mo | exact gup_s) (by rfl) ?_
                 try dsimp only [MS.code, MS.set_code]
                 first | refine ri_ifN_le h 90 d_Md_path_83 (by decide) (by omega) (fun c_83 => ?_) (fun c_83 => ?_) | refine ri_if_le h 90 d_Md_path_83 (by decide) (fun c_83 => ?_) (fun c_83 => ?_)
                 · first
                   | (exfalso; first | exact absurd c_83 (by decide) | first | contradiction | omega)
                   | (refine ri_aload_n h d_Md_path_90 rfl ?_
                      refine ri_iload_n h d_Md_path_91 rfl ?_
                      refine ri_iload_n h d_Md_path_92 rfl ?_
                      refine ri_lload_n h d_Md_path_93 rfl ?_
                      refine ri_iload h d_Md_path_94 rfl ?_
                      refine ri_dVv_4 (r := (gR6, gT6, 44)) h d_Md_path_96 cv_Md_128 (by first | exact hS.lcO | exact hS.lsO | exact hS.lpO | exact hS.cesO (by first | assumption | omega) | exact hS.cepO (by first | assumption | omega) | exact ⟨_, (by first | assumption | exact hS.st | exact hS.mo | exact hS.out | exact hS.sb | exact hS.ce (by first | assumption | omega) | exact hS.ceb (by first | assumption | omega) | exact hS.sh (by first | assumption | omega) | exact hS.shb (by first | assumption | omega) | exact hS.pl (by first | assumption | omega) | exact hS.plb (by first | assumption | omega) | exact hS.fl (by first | assumption | omega) | exact gup_s | (refine gup_t (by assumption) ?_; first | assumption | exact gup_s | (refine gup_t (by assumption) ?_; first | assumption | exact gup_s | (refine gup_t (by assumption) ?_; first | assumption | exact gup_s))))⟩) rfl (k_mshape h0 hS hn) (Nat.le_of_ble_eq_true rfl) (Nat.le_of_ble_eq_true rfl) (Nat.le_of_ble_eq_true rfl) (Nat.le_of_ble_eq_true rfl) (Nat.le_of_ble_eq_true rfl) (fun M hS => ?_)
                      obtain ⟨N', hS, rfl⟩ := hS
                      refine ri_ireturn h d_Md_path_99 (Nat.le_of_ble_eq_true rfl) (Nat.le_of_ble_eq_true rfl) ?_
                      exact ⟨rfl, _, hS, rfl⟩)
                 · first
                   | (exfalso; first | exact absurd c_83 (by decide) | first | contradiction | omega)
                   | (refine ri_iconstN h 0 d_Md_path_86 rfl ?_
                      refine ri_goto h 99 d_Md_path_87 (by decide) ?_
                      refine ri_ireturn h d_Md_path_99 (Nat.le_of_ble_eq_true rfl) (Nat.le_of_ble_eq_true rfl) ?_
                      exact ⟨rfl, rfl⟩)))
       · first
         | (exfalso; first | exact absurd c_14 (by decide) | first | contradiction | omega)
         | (refine ri_iconstN h 1 d_Md_path_17 rfl ?_
            refine ri_goto h 76 d_Md_path_18 (by decide) ?_
            refine ri_pm_code h d_Md_path_76 fl_Md_108 hS (fun M hS => ?_)
            refine ri_aload_n h d_Md_path_79 rfl ?_
            refine ri_get h d_Md_path_80 fl_Md_108 (by first | assumption | exact hS.mo | exact gup_s) (by rfl) ?_
            try dsimp only [MS.code, MS.set_code]
            first | refine ri_ifN_le h 90 d_Md_path_83 (by decide) (by omega) (fun c_83 => ?_) (fun c_83 => ?_) | refine ri_if_le h 90 d_Md_path_83 (by decide) (fun c_83 => ?_) (fun c_83 => ?_)
            · first
              | (exfalso; first | exact absurd c_83 (by decide) | first | contradiction | omega)
              | (refine ri_aload_n h d_Md_path_90 rfl ?_
                 refine ri_iload_n h d_Md_path_91 rfl ?_
                 refine ri_iload_n h d_Md_path_92 rfl ?_
                 refine ri_lload_n h d_Md_path_93 rfl ?_
                 refine ri_iload h d_Md_path_94 rfl ?_
                 refine ri_dVv_4 (r := (gR6, gT6, 44)) h d_Md_path_96 cv_Md_128 (by first | exact hS.lcO | exact hS.lsO | exact hS.lpO | exact hS.cesO (by first | assumption | omega) | exact hS.cepO (by first | assumption | omega) | exact ⟨_, (by first | assumption | exact hS.st | exact hS.mo | exact hS.out | exact hS.sb | exact hS.ce (by first | assumption | omega) | exact hS.ceb (by first | assumption | omega) | exact hS.sh (by first | assumption | omega) | exact hS.shb (by first | assumption | omega) | exact hS.pl (by first | assumption | omega) | exact hS.plb (by first | assumption | omega) | exact hS.fl (by first | assumption | omega) | exact gup_s | (refine gup_t (by assumption) ?_; first | assumption | exact gup_s | (refine gup_t (by assumption) ?_; first | assumption | exact gup_s | (refine gup_t (by assumption) ?_; first | assumption | exact gup_s))))⟩) rfl (k_mshape h0 hS hn) (Nat.le_of_ble_eq_true rfl) (Nat.le_of_ble_eq_true rfl) (Nat.le_of_ble_eq_true rfl) (Nat.le_of_ble_eq_true rfl) (Nat.le_of_ble_eq_true rfl) (fun M hS => ?_)
                 obtain ⟨N', hS, rfl⟩ := hS
                 refine ri_ireturn h d_Md_path_99 (Nat.le_of_ble_eq_true rfl) (Nat.le_of_ble_eq_true rfl) ?_
                 exact ⟨rfl, _, hS, rfl⟩)
            · first
              | (exfalso; first | exact absurd c_83 (by decide) | first | contradiction | omega)
              | (refine ri_iconstN h 0 d_Md_path_86 rfl ?_
                 refine ri_goto h 99 d_Md_path_87 (by decide) ?_
                 refine ri_ireturn h d_Md_path_99 (Nat.le_of_ble_eq_true rfl) (Nat.le_of_ble_eq_true rfl) ?_
                 exact ⟨rfl, rfl⟩)))
theorem k_mpath_no1 (h0 : g_0 l D s0) (hS : HS z ad Qc N M) (hm : MR Q N) (hW : WB Q) {p v : Int32} {w : Int64} {e : Int32} (hn : ¬ (∃ c, c < Q.nC ∧ p = nI c) ∨ ¬ (¬ v < 0 ∧ v < Q.L)) : Ct l D s0 y_Md_path (Cond.code y_Md_path b_Md_path 6 (some .int)) rkM [.ref (ad 30 0), .int p, .int v, .long w, .int e] M (fM z ad Qc (some (.int 0)) (fun N' => N' = N.set_code 1)) := by
  refine Ct.of h0 (by decide +kernel) rfl fun X hX h => ?_
  obtain ⟨p_, l', e_, R_, s_, m_, ar_, be_, me_, c_⟩ := X
  obtain rfl : l' = l := hX
  rcases hn with hn | hn
  · refine ri_aload_n h d_Md_path_0 rfl ?_
    refine ri_aload_n h d_Md_path_1 rfl ?_
    refine ri_iload_n h d_Md_path_2 rfl ?_
    refine ri_cVv_1 (r := (gR6, gT6, 44)) h d_Md_path_3 cv_Md_121 (by first | exact hS.lcO | exact hS.lsO | exact hS.lpO | exact hS.cesO (by first | assumption | omega) | exact hS.cepO (by first | assumption | omega) | exact ⟨_, (by first | assumption | exact hS.st | exact hS.mo | exact hS.out | exact hS.sb | exact hS.ce (by first | assumption | omega) | exact hS.ceb (by first | assumption | omega) | exact hS.sh (by first | assumption | omega) | exact hS.shb (by first | assumption | omega) | exact hS.pl (by first | assumption | omega) | exact hS.plb (by first | assumption | omega) | exact hS.fl (by first | assumption | omega) | exact gup_s | (refine gup_t (by assumption) ?_; first | assumption | exact gup_s | (refine gup_t (by assumption) ?_; first | assumption | exact gup_s | (refine gup_t (by assumption) ?_; first | assumption | exact gup_s))))⟩) rfl (k_isCell h0 hS (by assumption) hW) (Nat.le_of_ble_eq_true rfl) (Nat.le_of_ble_eq_true rfl) (Nat.le_of_ble_eq_true rfl) (Nat.le_of_ble_eq_true rfl) (Nat.le_of_ble_eq_true rfl) ?_
    first | refine ri_ifB_eq h 17 d_Md_path_6 (by decide) (fun c_6 => ?_) (fun c_6 => ?_) | refine ri_ifN_eq h 17 d_Md_path_6 (by decide) (by omega) (fun c_6 => ?_) (fun c_6 => ?_) | refine ri_if_eq h 17 d_Md_path_6 (by decide) (fun c_6 => ?_) (fun c_6 => ?_)
    · first
      | (exfalso; first | exact absurd c_6 (by decide) | first | contradiction | omega)
      | (refine ri_iconstN h 1 d_Md_path_17 rfl ?_
         refine ri_goto h 76 d_Md_path_18 (by decide) ?_
         refine ri_pm_code h d_Md_path_76 fl_Md_108 hS (fun M hS => ?_)
         refine ri_aload_n h d_Md_path_79 rfl ?_
         refine ri_get h d_Md_path_80 fl_Md_108 (by first | assumption | exact hS.mo | exact gup_s) (by rfl) ?_
         try dsimp only [MS.code, MS.set_code]
         first | refine ri_ifN_le h 90 d_Md_path_83 (by decide) (by omega) (fun c_83 => ?_) (fun c_83 => ?_) | refine ri_if_le h 90 d_Md_path_83 (by decide) (fun c_83 => ?_) (fun c_83 => ?_)
         · first
           | (exfalso; first | exact absurd c_83 (by decide) | first | contradiction | omega)
           | (refine ri_aload_n h d_Md_path_90 rfl ?_
              refine ri_iload_n h d_Md_path_91 rfl ?_
              refine ri_iload_n h d_Md_path_92 rfl ?_
              refine ri_lload_n h d_Md_path_93 rfl ?_
              refine ri_iload h d_Md_path_94 rfl ?_
              fail "Md_path 96")
         · first
           | (exfalso; first | exact absurd c_83 (by decide) | first | contradiction | omega)
           | (refine ri_iconstN h 0 d_Md_path_86 rfl ?_
              refine ri_goto h 99 d_Md_path_87 (by decide) ?_
              refine ri_ireturn h d_Md_path_99 (Nat.le_of_ble_eq_true rfl) (Nat.le_of_ble_eq_true rfl) ?_
              exact ⟨rfl, _, hS, rfl⟩))
    · first
      | (exfalso; first | exact absurd c_6 (by decide) | first | contradiction | omega)
      | (refine ri_aload_n h d_Md_path_9 rfl ?_
         refine ri_iload_n h d_Md_path_10 rfl ?_
         refine ri_cVv_1 (r := (gR6, gT6, 44)) h d_Md_path_11 cv_Md_125 (by first | exact hS.lcO | exact hS.lsO | exact hS.lpO | exact hS.cesO (by first | assumption | omega) | exact hS.cepO (by first | assumption | omega) | exact ⟨_, (by first | assumption | exact hS.st | exact hS.mo | exact hS.out | exact hS.sb | exact hS.ce (by first | assumption | omega) | exact hS.ceb (by first | assumption | omega) | exact hS.sh (by first | assumption | omega) | exact hS.shb (by first | assumption | omega) | exact hS.pl (by first | assumption | omega) | exact hS.plb (by first | assumption | omega) | exact hS.fl (by first | assumption | omega) | exact gup_s | (refine gup_t (by assumption) ?_; first | assumption | exact gup_s | (refine gup_t (by assumption) ?_; first | assumption | exact gup_s | (refine gup_t (by assumption) ?_; first | assumption | exact gup_s))))⟩) rfl (k_isLayer h0 hS (by assumption)) (Nat.le_of_ble_eq_true rfl) (Nat.le_of_ble_eq_true rfl) (Nat.le_of_ble_eq_true rfl) (Nat.le_of_ble_eq_true rfl) (Nat.le_of_ble_eq_true rfl) ?_
         first | refine ri_ifB_ne h 21 d_Md_path_14 (by decide) (fun c_14 => ?_) (fun c_14 => ?_) | refine ri_ifN_ne h 21 d_Md_path_14 (by decide) (by omega) (fun c_14 => ?_) (fun c_14 => ?_) | refine ri_if_ne h 21 d_Md_path_14 (by decide) (fun c_14 => ?_) (fun c_14 => ?_)
         · first
           | (exfalso; first | exact absurd c_14 (by decide) | first | contradiction | omega)
           | (refine ri_aload_n h d_Md_path_21 rfl ?_
              refine ri_get h d_Md_path_22 fl_Md_118 (by first | assumption | exact hS.mo | exact gup_s) (by rfl) ?_
              refine ri_bipushN h 120 d_Md_path_25 rfl ?_
              first | refine ri_icmpN_ne h 34 d_Md_path_27 (by decide) (by omega) (by omega) (fun c_27 => ?_) (fun c_27 => ?_) | refine ri_icmp_ne h 34 d_Md_path_27 (by decide) (fun c_27 => ?_) (fun c_27 => ?_)
              · first
                | (exfalso; first | exact absurd c_27 (by decide) | first | contradiction | omega)
                | (contradiction)
              · first
                | (exfalso; first | exact absurd c_27 (by decide) | first | contradiction | omega)
                | (refine ri_iconstN h 2 d_Md_path_30 rfl ?_
                   refine ri_goto h 76 d_Md_path_31 (by decide) ?_
                   refine ri_pm_code h d_Md_path_76 fl_Md_108 hS (fun M hS => ?_)
                   refine ri_aload_n h d_Md_path_79 rfl ?_
                   refine ri_get h d_Md_path_80 fl_Md_108 (by first | assumption | exact hS.mo | exact gup_s) (by rfl) ?_
                   try dsimp only [MS.code, MS.set_code]
                   first | refine ri_ifN_le h 90 d_Md_path_83 (by decide) (by omega) (fun c_83 => ?_) (fun c_83 => ?_) | refine ri_if_le h 90 d_Md_path_83 (by decide) (fun c_83 => ?_) (fun c_83 => ?_)
                   · first
                     | (exfalso; first | exact absurd c_83 (by decide) | first | contradiction | omega)
                     | (refine ri_aload_n h d_Md_path_90 rfl ?_
                        refine ri_iload_n h d_Md_path_91 rfl ?_
                        refine ri_iload_n h d_Md_path_92 rfl ?_
                        refine ri_lload_n h d_Md_path_93 rfl ?_
                        refine ri_iload h d_Md_path_94 rfl ?_
                        fail "Md_path 96")
                   · first
                     | (exfalso; first | exact absurd c_83 (by decide) | first | contradiction | omega)
                     | (refine ri_iconstN h 0 d_Md_path_86 rfl ?_
                        refine ri_goto h 99 d_Md_path_87 (by decide) ?_
                        refine ri_ireturn h d_Md_path_99 (Nat.le_of_ble_eq_true rfl) (Nat.le_of_ble_eq_true rfl) ?_
                        exact ⟨rfl, _, hS, rfl⟩)))
         · first
           | (exfalso; first | exact absurd c_14 (by decide) | first | contradiction | omega)
           | (refine ri_iconstN h 1 d_Md_path_17 rfl ?_
              refine ri_goto h 76 d_Md_path_18 (by decide) ?_
              refine ri_pm_code h d_Md_path_76 fl_Md_108 hS (fun M hS => ?_)
              refine ri_aload_n h d_Md_path_79 rfl ?_
              refine ri_get h d_Md_path_80 fl_Md_108 (by first | assumption | exact hS.mo | exact gup_s) (by rfl) ?_
              try dsimp only [MS.code, MS.set_code]
              first | refine ri_ifN_le h 90 d_Md_path_83 (by decide) (by omega) (fun c_83 => ?_) (fun c_83 => ?_) | refine ri_if_le h 90 d_Md_path_83 (by decide) (fun c_83 => ?_) (fun c_83 => ?_)
              · first
                | (exfalso; first | exact absurd c_83 (by decide) | first | contradiction | omega)
                | (refine ri_aload_n h d_Md_path_90 rfl ?_
                   refine ri_iload_n h d_Md_path_91 rfl ?_
                   refine ri_iload_n h d_Md_path_92 rfl ?_
                   refine ri_lload_n h d_Md_path_93 rfl ?_
                   refine ri_iload h d_Md_path_94 rfl ?_
                   fail "Md_path 96")
              · first
                | (exfalso; first | exact absurd c_83 (by decide) | first | contradiction | omega)
                | (refine ri_iconstN h 0 d_Md_path_86 rfl ?_
                   refine ri_goto h 99 d_Md_path_87 (by decide) ?_
                   refine ri_ireturn h d_Md_path_99 (Nat.le_of_ble_eq_true rfl) (Nat.le_of_ble_eq_true rfl) ?_
                   exact ⟨rfl, _, hS, rfl⟩)))
  · refine ri_aload_n h d_Md_path_0 rfl ?_
    refine ri_aload_n h d_Md_path_1 rfl ?_
    refine ri_iload_n h d_Md_path_2 rfl ?_
    refine ri_cVv_1 (r := (gR6, gT6, 44)) h d_Md_path_3 cv_Md_121 (by first | exact hS.lcO | exact hS.lsO | exact hS.lpO | exact hS.cesO (by first | assumption | omega) | exact hS.cepO (by first | assumption | omega) | exact ⟨_, (by first | assumption | exact hS.st | exact hS.mo | exact hS.out | exact hS.sb | exact hS.ce (by first | assumption | omega) | exact hS.ceb (by first | assumption | omega) | exact hS.sh (by first | assumption | omega) | exact hS.shb (by first | assumption | omega) | exact hS.pl (by first | assumption | omega) | exact hS.plb (by first | assumption | omega) | exact hS.fl (by first | assumption | omega) | exact gup_s | (refine gup_t (by assumption) ?_; first | assumption | exact gup_s | (refine gup_t (by assumption) ?_; first | assumption | exact gup_s | (refine gup_t (by assumption) ?_; first | assumption | exact gup_s))))⟩) rfl (k_isCell h0 hS (by assumption) hW) (Nat.le_of_ble_eq_true rfl) (Nat.le_of_ble_eq_true rfl) (Nat.le_of_ble_eq_true rfl) (Nat.le_of_ble_eq_true rfl) (Nat.le_of_ble_eq_true rfl) ?_
    first | refine ri_ifB_eq h 17 d_Md_path_6 (by decide) (fun c_6 => ?_) (fun c_6 => ?_) | refine ri_ifN_eq h 17 d_Md_path_6 (by decide) (by omega) (fun c_6 => ?_) (fun c_6 => ?_) | refine ri_if_eq h 17 d_Md_path_6 (by decide) (fun c_6 => ?_) (fun c_6 => ?_)
    · first
      | (exfalso; first | exact absurd c_6 (by decide) | first | contradiction | omega)
      | (refine ri_iconstN h 1 d_Md_path_17 rfl ?_
         refine ri_goto h 76 d_Md_path_18 (by decide) ?_
         refine ri_pm_code h d_Md_path_76 fl_Md_108 hS (fun M hS => ?_)
         refine ri_aload_n h d_Md_path_79 rfl ?_
         refine ri_get h d_Md_path_80 fl_Md_108 (by first | assumption | exact hS.mo | exact gup_s) (by rfl) ?_
         try dsimp only [MS.code, MS.set_code]
         first | refine ri_ifN_le h 90 d_Md_path_83 (by decide) (by omega) (fun c_83 => ?_) (fun c_83 => ?_) | refine ri_if_le h 90 d_Md_path_83 (by decide) (fun c_83 => ?_) (fun c_83 => ?_)
         · first
           | (exfalso; first | exact absurd c_83 (by decide) | first | contradiction | omega)
           | (refine ri_aload_n h d_Md_path_90 rfl ?_
              refine ri_iload_n h d_Md_path_91 rfl ?_
              refine ri_iload_n h d_Md_path_92 rfl ?_
              refine ri_lload_n h d_Md_path_93 rfl ?_
              refine ri_iload h d_Md_path_94 rfl ?_
              fail "Md_path 96")
         · first
           | (exfalso; first | exact absurd c_83 (by decide) | first | contradiction | omega)
           | (refine ri_iconstN h 0 d_Md_path_86 rfl ?_
              refine ri_goto h 99 d_Md_path_87 (by decide) ?_
              refine ri_ireturn h d_Md_path_99 (Nat.le_of_ble_eq_true rfl) (Nat.le_of_ble_eq_true rfl) ?_
              exact ⟨rfl, _, hS, rfl⟩))
    · first
      | (exfalso; first | exact absurd c_6 (by decide) | first | contradiction | omega)
      | (refine ri_aload_n h d_Md_path_9 rfl ?_
         refine ri_iload_n h d_Md_path_10 rfl ?_
         refine ri_cVv_1 (r := (gR6, gT6, 44)) h d_Md_path_11 cv_Md_125 (by first | exact hS.lcO | exact hS.lsO | exact hS.lpO | exact hS.cesO (by first | assumption | omega) | exact hS.cepO (by first | assumption | omega) | exact ⟨_, (by first | assumption | exact hS.st | exact hS.mo | exact hS.out | exact hS.sb | exact hS.ce (by first | assumption | omega) | exact hS.ceb (by first | assumption | omega) | exact hS.sh (by first | assumption | omega) | exact hS.shb (by first | assumption | omega) | exact hS.pl (by first | assumption | omega) | exact hS.plb (by first | assumption | omega) | exact hS.fl (by first | assumption | omega) | exact gup_s | (refine gup_t (by assumption) ?_; first | assumption | exact gup_s | (refine gup_t (by assumption) ?_; first | assumption | exact gup_s | (refine gup_t (by assumption) ?_; first | assumption | exact gup_s))))⟩) rfl (k_isLayer h0 hS (by assumption)) (Nat.le_of_ble_eq_true rfl) (Nat.le_of_ble_eq_true rfl) (Nat.le_of_ble_eq_true rfl) (Nat.le_of_ble_eq_true rfl) (Nat.le_of_ble_eq_true rfl) ?_
         first | refine ri_ifB_ne h 21 d_Md_path_14 (by decide) (fun c_14 => ?_) (fun c_14 => ?_) | refine ri_ifN_ne h 21 d_Md_path_14 (by decide) (by omega) (fun c_14 => ?_) (fun c_14 => ?_) | refine ri_if_ne h 21 d_Md_path_14 (by decide) (fun c_14 => ?_) (fun c_14 => ?_)
         · first
           | (exfalso; first | exact absurd c_14 (by decide) | first | contradiction | omega)
           | (refine ri_aload_n h d_Md_path_21 rfl ?_
              refine ri_get h d_Md_path_22 fl_Md_118 (by first | assumption | exact hS.mo | exact gup_s) (by rfl) ?_
              refine ri_bipushN h 120 d_Md_path_25 rfl ?_
              first | refine ri_icmpN_ne h 34 d_Md_path_27 (by decide) (by omega) (by omega) (fun c_27 => ?_) (fun c_27 => ?_) | refine ri_icmp_ne h 34 d_Md_path_27 (by decide) (fun c_27 => ?_) (fun c_27 => ?_)
              · first
                | (exfalso; first | exact absurd c_27 (by decide) | first | contradiction | omega)
                | (contradiction)
              · first
                | (exfalso; first | exact absurd c_27 (by decide) | first | contradiction | omega)
                | (refine ri_iconstN h 2 d_Md_path_30 rfl ?_
                   refine ri_goto h 76 d_Md_path_31 (by decide) ?_
                   refine ri_pm_code h d_Md_path_76 fl_Md_108 hS (fun M hS => ?_)
                   refine ri_aload_n h d_Md_path_79 rfl ?_
                   refine ri_get h d_Md_path_80 fl_Md_108 (by first | assumption | exact hS.mo | exact gup_s) (by rfl) ?_
                   try dsimp only [MS.code, MS.set_code]
                   first | refine ri_ifN_le h 90 d_Md_path_83 (by decide) (by omega) (fun c_83 => ?_) (fun c_83 => ?_) | refine ri_if_le h 90 d_Md_path_83 (by decide) (fun c_83 => ?_) (fun c_83 => ?_)
                   · first
                     | (exfalso; first | exact absurd c_83 (by decide) | first | contradiction | omega)
                     | (refine ri_aload_n h d_Md_path_90 rfl ?_
                        refine ri_iload_n h d_Md_path_91 rfl ?_
                        refine ri_iload_n h d_Md_path_92 rfl ?_
                        refine ri_lload_n h d_Md_path_93 rfl ?_
                        refine ri_iload h d_Md_path_94 rfl ?_
                        fail "Md_path 96")
                   · first
                     | (exfalso; first | exact absurd c_83 (by decide) | first | contradiction | omega)
                     | (refine ri_iconstN h 0 d_Md_path_86 rfl ?_
                        refine ri_goto h 99 d_Md_path_87 (by decide) ?_
                        refine ri_ireturn h d_Md_path_99 (Nat.le_of_ble_eq_true rfl) (Nat.le_of_ble_eq_true rfl) ?_
                        exact ⟨rfl, _, hS, rfl⟩)))
         · first
           | (exfalso; first | exact absurd c_14 (by decide) | first | contradiction | omega)
           | (refine ri_iconstN h 1 d_Md_path_17 rfl ?_
              refine ri_goto h 76 d_Md_path_18 (by decide) ?_
              refine ri_pm_code h d_Md_path_76 fl_Md_108 hS (fun M hS => ?_)
              refine ri_aload_n h d_Md_path_79 rfl ?_
              refine ri_get h d_Md_path_80 fl_Md_108 (by first | assumption | exact hS.mo | exact gup_s) (by rfl) ?_
              try dsimp only [MS.code, MS.set_code]
              first | refine ri_ifN_le h 90 d_Md_path_83 (by decide) (by omega) (fun c_83 => ?_) (fun c_83 => ?_) | refine ri_if_le h 90 d_Md_path_83 (by decide) (fun c_83 => ?_) (fun c_83 => ?_)
              · first
                | (exfalso; first | exact absurd c_83 (by decide) | first | contradiction | omega)
                | (refine ri_aload_n h d_Md_path_90 rfl ?_
                   refine ri_iload_n h d_Md_path_91 rfl ?_
                   refine ri_iload_n h d_Md_path_92 rfl ?_
                   refine ri_lload_n h d_Md_path_93 rfl ?_
                   refine ri_iload h d_Md_path_94 rfl ?_
                   fail "Md_path 96")
              · first
                | (exfalso; first | exact absurd c_83 (by decide) | first | contradiction | omega)
                | (refine ri_iconstN h 0 d_Md_path_86 rfl ?_
                   refine ri_goto h 99 d_Md_path_87 (by decide) ?_
                   refine ri_ireturn h d_Md_path_99 (Nat.le_of_ble_eq_true rfl) (Nat.le_of_ble_eq_true rfl) ?_
                   exact ⟨rfl, _, hS, rfl⟩)))
theorem k_mpath_no2 (h0 : g_0 l D s0) (hS : HS z ad Qc N M) (hm : MR Q N) (hW : WB Q) {p v : Int32} {w : Int64} {e : Int32} (hc : ∃ c, c < Q.nC ∧ p = nI c) (hv : ¬ v < 0 ∧ v < Q.L) (hn : Q.nS = 120) : Ct l D s0 y_Md_path (Cond.code y_Md_path b_Md_path 6 (some .int)) rkM [.ref (ad 30 0), .int p, .int v, .long w, .int e] M (fM z ad Qc (some (.int 0)) (fun N' => N' = N.set_code 2)) := by
  rw [← hm.ns] at hn
  refine Ct.of h0 (by decide +kernel) rfl fun X hX h => ?_
  obtain ⟨p_, l', e_, R_, s_, m_, ar_, be_, me_, c_⟩ := X
  obtain rfl : l' = l := hX
  refine ri_aload_n h d_Md_path_0 rfl ?_
  refine ri_aload_n h d_Md_path_1 rfl ?_
  refine ri_iload_n h d_Md_path_2 rfl ?_
  refine ri_cVv_1 (r := (gR6, gT6, 44)) h d_Md_path_3 cv_Md_121 (by first | exact hS.lcO | exact hS.lsO | exact hS.lpO | exact hS.cesO (by first | assumption | omega) | exact hS.cepO (by first | assumption | omega) | exact ⟨_, (by first | assumption | exact hS.st | exact hS.mo | exact hS.out | exact hS.sb | exact hS.ce (by first | assumption | omega) | exact hS.ceb (by first | assumption | omega) | exact hS.sh (by first | assumption | omega) | exact hS.shb (by first | assumption | omega) | exact hS.pl (by first | assumption | omega) | exact hS.plb (by first | assumption | omega) | exact hS.fl (by first | assumption | omega) | exact gup_s | (refine gup_t (by assumption) ?_; first | assumption | exact gup_s | (refine gup_t (by assumption) ?_; first | assumption | exact gup_s | (refine gup_t (by assumption) ?_; first | assumption | exact gup_s))))⟩) rfl (k_isCell h0 hS (by assumption) hW) (Nat.le_of_ble_eq_true rfl) (Nat.le_of_ble_eq_true rfl) (Nat.le_of_ble_eq_true rfl) (Nat.le_of_ble_eq_true rfl) (Nat.le_of_ble_eq_true rfl) ?_
  first | refine ri_ifB_eq h 17 d_Md_path_6 (by decide) (fun c_6 => ?_) (fun c_6 => ?_) | refine ri_ifN_eq h 17 d_Md_path_6 (by decide) (by omega) (fun c_6 => ?_) (fun c_6 => ?_) | refine ri_if_eq h 17 d_Md_path_6 (by decide) (fun c_6 => ?_) (fun c_6 => ?_)
  · first
    | (exfalso; first | exact absurd c_6 (by decide) | first | contradiction | omega)
    | (refine ri_iconstN h 1 d_Md_path_17 rfl ?_
       refine ri_goto h 76 d_Md_path_18 (by decide) ?_
       refine ri_pm_code h d_Md_path_76 fl_Md_108 hS (fun M hS => ?_)
       refine ri_aload_n h d_Md_path_79 rfl ?_
       refine ri_get h d_Md_path_80 fl_Md_108 (by first | assumption | exact hS.mo | exact gup_s) (by rfl) ?_
       try dsimp only [MS.code, MS.set_code]
       first | refine ri_ifN_le h 90 d_Md_path_83 (by decide) (by omega) (fun c_83 => ?_) (fun c_83 => ?_) | refine ri_if_le h 90 d_Md_path_83 (by decide) (fun c_83 => ?_) (fun c_83 => ?_)
       · first
         | (exfalso; first | exact absurd c_83 (by decide) | first | contradiction | omega)
         | (refine ri_aload_n h d_Md_path_90 rfl ?_
            refine ri_iload_n h d_Md_path_91 rfl ?_
            refine ri_iload_n h d_Md_path_92 rfl ?_
            refine ri_lload_n h d_Md_path_93 rfl ?_
            refine ri_iload h d_Md_path_94 rfl ?_
            fail "Md_path 96")
       · first
         | (exfalso; first | exact absurd c_83 (by decide) | first | contradiction | omega)
         | (refine ri_iconstN h 0 d_Md_path_86 rfl ?_
            refine ri_goto h 99 d_Md_path_87 (by decide) ?_
            refine ri_ireturn h d_Md_path_99 (Nat.le_of_ble_eq_true rfl) (Nat.le_of_ble_eq_true rfl) ?_
            exact ⟨rfl, _, hS, rfl⟩))
  · first
    | (exfalso; first | exact absurd c_6 (by decide) | first | contradiction | omega)
    | (refine ri_aload_n h d_Md_path_9 rfl ?_
       refine ri_iload_n h d_Md_path_10 rfl ?_
       refine ri_cVv_1 (r := (gR6, gT6, 44)) h d_Md_path_11 cv_Md_125 (by first | exact hS.lcO | exact hS.lsO | exact hS.lpO | exact hS.cesO (by first | assumption | omega) | exact hS.cepO (by first | assumption | omega) | exact ⟨_, (by first | assumption | exact hS.st | exact hS.mo | exact hS.out | exact hS.sb | exact hS.ce (by first | assumption | omega) | exact hS.ceb (by first | assumption | omega) | exact hS.sh (by first | assumption | omega) | exact hS.shb (by first | assumption | omega) | exact hS.pl (by first | assumption | omega) | exact hS.plb (by first | assumption | omega) | exact hS.fl (by first | assumption | omega) | exact gup_s | (refine gup_t (by assumption) ?_; first | assumption | exact gup_s | (refine gup_t (by assumption) ?_; first | assumption | exact gup_s | (refine gup_t (by assumption) ?_; first | assumption | exact gup_s))))⟩) rfl (k_isLayer h0 hS (by assumption)) (Nat.le_of_ble_eq_true rfl) (Nat.le_of_ble_eq_true rfl) (Nat.le_of_ble_eq_true rfl) (Nat.le_of_ble_eq_true rfl) (Nat.le_of_ble_eq_true rfl) ?_
       first | refine ri_ifB_ne h 21 d_Md_path_14 (by decide) (fun c_14 => ?_) (fun c_14 => ?_) | refine ri_ifN_ne h 21 d_Md_path_14 (by decide) (by omega) (fun c_14 => ?_) (fun c_14 => ?_) | refine ri_if_ne h 21 d_Md_path_14 (by decide) (fun c_14 => ?_) (fun c_14 => ?_)
       · first
         | (exfalso; first | exact absurd c_14 (by decide) | first | contradiction | omega)
         | (refine ri_aload_n h d_Md_path_21 rfl ?_
            refine ri_get h d_Md_path_22 fl_Md_118 (by first | assumption | exact hS.mo | exact gup_s) (by rfl) ?_
            refine ri_bipushN h 120 d_Md_path_25 rfl ?_
            first | refine ri_icmpN_ne h 34 d_Md_path_27 (by decide) (by omega) (by omega) (fun c_27 => ?_) (fun c_27 => ?_) | refine ri_icmp_ne h 34 d_Md_path_27 (by decide) (fun c_27 => ?_) (fun c_27 => ?_)
            · first
              | (exfalso; first | exact absurd c_27 (by decide) | first | contradiction | omega)
              | (contradiction)
            · first
              | (exfalso; first | exact absurd c_27 (by decide) | first | contradiction | omega)
              | (refine ri_iconstN h 2 d_Md_path_30 rfl ?_
                 refine ri_goto h 76 d_Md_path_31 (by decide) ?_
                 refine ri_pm_code h d_Md_path_76 fl_Md_108 hS (fun M hS => ?_)
                 refine ri_aload_n h d_Md_path_79 rfl ?_
                 refine ri_get h d_Md_path_80 fl_Md_108 (by first | assumption | exact hS.mo | exact gup_s) (by rfl) ?_
                 try dsimp only [MS.code, MS.set_code]
                 first | refine ri_ifN_le h 90 d_Md_path_83 (by decide) (by omega) (fun c_83 => ?_) (fun c_83 => ?_) | refine ri_if_le h 90 d_Md_path_83 (by decide) (fun c_83 => ?_) (fun c_83 => ?_)
                 · first
                   | (exfalso; first | exact absurd c_83 (by decide) | first | contradiction | omega)
                   | (refine ri_aload_n h d_Md_path_90 rfl ?_
                      refine ri_iload_n h d_Md_path_91 rfl ?_
                      refine ri_iload_n h d_Md_path_92 rfl ?_
                      refine ri_lload_n h d_Md_path_93 rfl ?_
                      refine ri_iload h d_Md_path_94 rfl ?_
                      fail "Md_path 96")
                 · first
                   | (exfalso; first | exact absurd c_83 (by decide) | first | contradiction | omega)
                   | (refine ri_iconstN h 0 d_Md_path_86 rfl ?_
                      refine ri_goto h 99 d_Md_path_87 (by decide) ?_
                      refine ri_ireturn h d_Md_path_99 (Nat.le_of_ble_eq_true rfl) (Nat.le_of_ble_eq_true rfl) ?_
                      exact ⟨rfl, _, hS, rfl⟩)))
       · first
         | (exfalso; first | exact absurd c_14 (by decide) | first | contradiction | omega)
         | (refine ri_iconstN h 1 d_Md_path_17 rfl ?_
            refine ri_goto h 76 d_Md_path_18 (by decide) ?_
            refine ri_pm_code h d_Md_path_76 fl_Md_108 hS (fun M hS => ?_)
            refine ri_aload_n h d_Md_path_79 rfl ?_
            refine ri_get h d_Md_path_80 fl_Md_108 (by first | assumption | exact hS.mo | exact gup_s) (by rfl) ?_
            try dsimp only [MS.code, MS.set_code]
            first | refine ri_ifN_le h 90 d_Md_path_83 (by decide) (by omega) (fun c_83 => ?_) (fun c_83 => ?_) | refine ri_if_le h 90 d_Md_path_83 (by decide) (fun c_83 => ?_) (fun c_83 => ?_)
            · first
              | (exfalso; first | exact absurd c_83 (by decide) | first | contradiction | omega)
              | (refine ri_aload_n h d_Md_path_90 rfl ?_
                 refine ri_iload_n h d_Md_path_91 rfl ?_
                 refine ri_iload_n h d_Md_path_92 rfl ?_
                 refine ri_lload_n h d_Md_path_93 rfl ?_
                 refine ri_iload h d_Md_path_94 rfl ?_
                 fail "Md_path 96")
            · first
              | (exfalso; first | exact absurd c_83 (by decide) | first | contradiction | omega)
              | (refine ri_iconstN h 0 d_Md_path_86 rfl ?_
                 refine ri_goto h 99 d_Md_path_87 (by decide) ?_
                 refine ri_ireturn h d_Md_path_99 (Nat.le_of_ble_eq_true rfl) (Nat.le_of_ble_eq_true rfl) ?_
                 exact ⟨rfl, _, hS, rfl⟩)))
theorem k_mpath_no3 (h0 : g_0 l D s0) (hS : HS z ad Qc N M) (hm : MR Q N) (hW : WB Q) {p v : Int32} {w : Int64} {e : Int32} (hc : ∃ c, c < Q.nC ∧ p = nI c) (hv : ¬ v < 0 ∧ v < Q.L) (hn : Q.nS < 120) (hw : ¬ (wideB w ∧ ¬ e < 0 ∧ e ≤ 1)) : Ct l D s0 y_Md_path (Cond.code y_Md_path b_Md_path 6 (some .int)) rkM [.ref (ad 30 0), .int p, .int v, .long w, .int e] M (fM z ad Qc (some (.int 0)) (fun N' => N' = N.set_code 3)) := by
  rw [← hm.ns] at hn
  refine Ct.of h0 (by decide +kernel) rfl fun X hX h => ?_
  obtain ⟨p_, l', e_, R_, s_, m_, ar_, be_, me_, c_⟩ := X
  obtain rfl : l' = l := hX
  refine ri_aload_n h d_Md_path_0 rfl ?_
  refine ri_aload_n h d_Md_path_1 rfl ?_
  refine ri_iload_n h d_Md_path_2 rfl ?_
  refine ri_cVv_1 (r := (gR6, gT6, 44)) h d_Md_path_3 cv_Md_121 (by first | exact hS.lcO | exact hS.lsO | exact hS.lpO | exact hS.cesO (by first | assumption | omega) | exact hS.cepO (by first | assumption | omega) | exact ⟨_, (by first | assumption | exact hS.st | exact hS.mo | exact hS.out | exact hS.sb | exact hS.ce (by first | assumption | omega) | exact hS.ceb (by first | assumption | omega) | exact hS.sh (by first | assumption | omega) | exact hS.shb (by first | assumption | omega) | exact hS.pl (by first | assumption | omega) | exact hS.plb (by first | assumption | omega) | exact hS.fl (by first | assumption | omega) | exact gup_s | (refine gup_t (by assumption) ?_; first | assumption | exact gup_s | (refine gup_t (by assumption) ?_; first | assumption | exact gup_s | (refine gup_t (by assumption) ?_; first | assumption | exact gup_s))))⟩) rfl (k_isCell h0 hS (by assumption) hW) (Nat.le_of_ble_eq_true rfl) (Nat.le_of_ble_eq_true rfl) (Nat.le_of_ble_eq_true rfl) (Nat.le_of_ble_eq_true rfl) (Nat.le_of_ble_eq_true rfl) ?_
  first | refine ri_ifB_eq h 17 d_Md_path_6 (by decide) (fun c_6 => ?_) (fun c_6 => ?_) | refine ri_ifN_eq h 17 d_Md_path_6 (by decide) (by omega) (fun c_6 => ?_) (fun c_6 => ?_) | refine ri_if_eq h 17 d_Md_path_6 (by decide) (fun c_6 => ?_) (fun c_6 => ?_)
  · first
    | (exfalso; first | exact absurd c_6 (by decide) | first | contradiction | omega)
    | (refine ri_iconstN h 1 d_Md_path_17 rfl ?_
       refine ri_goto h 76 d_Md_path_18 (by decide) ?_
       refine ri_pm_code h d_Md_path_76 fl_Md_108 hS (fun M hS => ?_)
       refine ri_aload_n h d_Md_path_79 rfl ?_
       refine ri_get h d_Md_path_80 fl_Md_108 (by first | assumption | exact hS.mo | exact gup_s) (by rfl) ?_
       try dsimp only [MS.code, MS.set_code]
       first | refine ri_ifN_le h 90 d_Md_path_83 (by decide) (by omega) (fun c_83 => ?_) (fun c_83 => ?_) | refine ri_if_le h 90 d_Md_path_83 (by decide) (fun c_83 => ?_) (fun c_83 => ?_)
       · first
         | (exfalso; first | exact absurd c_83 (by decide) | first | contradiction | omega)
         | (refine ri_aload_n h d_Md_path_90 rfl ?_
            refine ri_iload_n h d_Md_path_91 rfl ?_
            refine ri_iload_n h d_Md_path_92 rfl ?_
            refine ri_lload_n h d_Md_path_93 rfl ?_
            refine ri_iload h d_Md_path_94 rfl ?_
            contradiction)
       · first
         | (exfalso; first | exact absurd c_83 (by decide) | first | contradiction | omega)
         | (refine ri_iconstN h 0 d_Md_path_86 rfl ?_
            refine ri_goto h 99 d_Md_path_87 (by decide) ?_
            refine ri_ireturn h d_Md_path_99 (Nat.le_of_ble_eq_true rfl) (Nat.le_of_ble_eq_true rfl) ?_
            exact ⟨rfl, _, hS, rfl⟩))
  · first
    | (exfalso; first | exact absurd c_6 (by decide) | first | contradiction | omega)
    | (refine ri_aload_n h d_Md_path_9 rfl ?_
       refine ri_iload_n h d_Md_path_10 rfl ?_
       refine ri_cVv_1 (r := (gR6, gT6, 44)) h d_Md_path_11 cv_Md_125 (by first | exact hS.lcO | exact hS.lsO | exact hS.lpO | exact hS.cesO (by first | assumption | omega) | exact hS.cepO (by first | assumption | omega) | exact ⟨_, (by first | assumption | exact hS.st | exact hS.mo | exact hS.out | exact hS.sb | exact hS.ce (by first | assumption | omega) | exact hS.ceb (by first | assumption | omega) | exact hS.sh (by first | assumption | omega) | exact hS.shb (by first | assumption | omega) | exact hS.pl (by first | assumption | omega) | exact hS.plb (by first | assumption | omega) | exact hS.fl (by first | assumption | omega) | exact gup_s | (refine gup_t (by assumption) ?_; first | assumption | exact gup_s | (refine gup_t (by assumption) ?_; first | assumption | exact gup_s | (refine gup_t (by assumption) ?_; first | assumption | exact gup_s))))⟩) rfl (k_isLayer h0 hS (by assumption)) (Nat.le_of_ble_eq_true rfl) (Nat.le_of_ble_eq_true rfl) (Nat.le_of_ble_eq_true rfl) (Nat.le_of_ble_eq_true rfl) (Nat.le_of_ble_eq_true rfl) ?_
       first | refine ri_ifB_ne h 21 d_Md_path_14 (by decide) (fun c_14 => ?_) (fun c_14 => ?_) | refine ri_ifN_ne h 21 d_Md_path_14 (by decide) (by omega) (fun c_14 => ?_) (fun c_14 => ?_) | refine ri_if_ne h 21 d_Md_path_14 (by decide) (fun c_14 => ?_) (fun c_14 => ?_)
       · first
         | (exfalso; first | exact absurd c_14 (by decide) | first | contradiction | omega)
         | (refine ri_aload_n h d_Md_path_21 rfl ?_
            refine ri_get h d_Md_path_22 fl_Md_118 (by first | assumption | exact hS.mo | exact gup_s) (by rfl) ?_
            refine ri_bipushN h 120 d_Md_path_25 rfl ?_
            first | refine ri_icmpN_ne h 34 d_Md_path_27 (by decide) (by omega) (by omega) (fun c_27 => ?_) (fun c_27 => ?_) | refine ri_icmp_ne h 34 d_Md_path_27 (by decide) (fun c_27 => ?_) (fun c_27 => ?_)
            · first
              | (exfalso; first | exact absurd c_27 (by decide) | first | contradiction | omega)
              | (refine ri_lload_n h d_Md_path_34 rfl ?_
                 refine ri_ldc2 h 2 d_Md_path_35 kl_Md_132 ?_
                 refine ri_lcmp_lt h 71 d_Md_path_38 d_Md_path_39 (by decide) (fun c_38 => ?_) (fun c_38 => ?_)
                 · first
                   | (exfalso; first | exact absurd c_38 (by decide) | first | contradiction | omega)
                   | (refine ri_iconstN h 3 d_Md_path_71 rfl ?_
                      refine ri_goto h 76 d_Md_path_72 (by decide) ?_
                      refine ri_pm_code h d_Md_path_76 fl_Md_108 hS (fun M hS => ?_)
                      refine ri_aload_n h d_Md_path_79 rfl ?_
                      refine ri_get h d_Md_path_80 fl_Md_108 (by first | assumption | exact hS.mo | exact gup_s) (by rfl) ?_
                      try dsimp only [MS.code, MS.set_code]
                      first | refine ri_ifN_le h 90 d_Md_path_83 (by decide) (by omega) (fun c_83 => ?_) (fun c_83 => ?_) | refine ri_if_le h 90 d_Md_path_83 (by decide) (fun c_83 => ?_) (fun c_83 => ?_)
                      · first
                        | (exfalso; first | exact absurd c_83 (by decide) | first | contradiction | omega)
                        | (refine ri_aload_n h d_Md_path_90 rfl ?_
                           refine ri_iload_n h d_Md_path_91 rfl ?_
                           refine ri_iload_n h d_Md_path_92 rfl ?_
                           refine ri_lload_n h d_Md_path_93 rfl ?_
                           refine ri_iload h d_Md_path_94 rfl ?_
                           contradiction)
                      · first
                        | (exfalso; first | exact absurd c_83 (by decide) | first | contradiction | omega)
                        | (refine ri_iconstN h 0 d_Md_path_86 rfl ?_
                           refine ri_goto h 99 d_Md_path_87 (by decide) ?_
                           refine ri_ireturn h d_Md_path_99 (Nat.le_of_ble_eq_true rfl) (Nat.le_of_ble_eq_true rfl) ?_
                           exact ⟨rfl, _, hS, rfl⟩))
                 · first
                   | (exfalso; first | exact absurd c_38 (by decide) | first | contradiction | omega)
                   | (refine ri_lload_n h d_Md_path_42 rfl ?_
                      refine ri_ldc2 h 1000 d_Md_path_43 kl_Md_134 ?_
                      refine ri_lcmp_gt h 71 d_Md_path_46 d_Md_path_47 (by decide) (fun c_46 => ?_) (fun c_46 => ?_)
                      · first
                        | (exfalso; first | exact absurd c_46 (by decide) | first | contradiction | omega)
                        | (refine ri_iconstN h 3 d_Md_path_71 rfl ?_
                           refine ri_goto h 76 d_Md_path_72 (by decide) ?_
                           refine ri_pm_code h d_Md_path_76 fl_Md_108 hS (fun M hS => ?_)
                           refine ri_aload_n h d_Md_path_79 rfl ?_
                           refine ri_get h d_Md_path_80 fl_Md_108 (by first | assumption | exact hS.mo | exact gup_s) (by rfl) ?_
                           try dsimp only [MS.code, MS.set_code]
                           first | refine ri_ifN_le h 90 d_Md_path_83 (by decide) (by omega) (fun c_83 => ?_) (fun c_83 => ?_) | refine ri_if_le h 90 d_Md_path_83 (by decide) (fun c_83 => ?_) (fun c_83 => ?_)
                           · first
                             | (exfalso; first | exact absurd c_83 (by decide) | first | contradiction | omega)
                             | (refine ri_aload_n h d_Md_path_90 rfl ?_
                                refine ri_iload_n h d_Md_path_91 rfl ?_
                                refine ri_iload_n h d_Md_path_92 rfl ?_
                                refine ri_lload_n h d_Md_path_93 rfl ?_
                                refine ri_iload h d_Md_path_94 rfl ?_
                                contradiction)
                           · first
                             | (exfalso; first | exact absurd c_83 (by decide) | first | contradiction | omega)
                             | (refine ri_iconstN h 0 d_Md_path_86 rfl ?_
                                refine ri_goto h 99 d_Md_path_87 (by decide) ?_
                                refine ri_ireturn h d_Md_path_99 (Nat.le_of_ble_eq_true rfl) (Nat.le_of_ble_eq_true rfl) ?_
                                exact ⟨rfl, _, hS, rfl⟩))
                      · first
                        | (exfalso; first | exact absurd c_46 (by decide) | first | contradiction | omega)
                        | (refine ri_lload_n h d_Md_path_50 rfl ?_
                           refine ri_ldc2 h 2 d_Md_path_51 kl_Md_132 ?_
                           refine ri_lrem h d_Md_path_54 (by decide) ?_
                           refine ri_lconst h 0 d_Md_path_55 rfl ?_
                           refine ri_lcmp_ne h 71 d_Md_path_56 d_Md_path_57 (by decide) (fun c_56 => ?_) (fun c_56 => ?_)
                           · first
                             | (exfalso; first | exact absurd c_56 (by decide) | first | contradiction | omega)
                             | (refine ri_iconstN h 3 d_Md_path_71 rfl ?_
                                refine ri_goto h 76 d_Md_path_72 (by decide) ?_
                                refine ri_pm_code h d_Md_path_76 fl_Md_108 hS (fun M hS => ?_)
                                refine ri_aload_n h d_Md_path_79 rfl ?_
                                refine ri_get h d_Md_path_80 fl_Md_108 (by first | assumption | exact hS.mo | exact gup_s) (by rfl) ?_
                                try dsimp only [MS.code, MS.set_code]
                                first | refine ri_ifN_le h 90 d_Md_path_83 (by decide) (by omega) (fun c_83 => ?_) (fun c_83 => ?_) | refine ri_if_le h 90 d_Md_path_83 (by decide) (fun c_83 => ?_) (fun c_83 => ?_)
                                · first
                                  | (exfalso; first | exact absurd c_83 (by decide) | first | contradiction | omega)
                                  | (refine ri_aload_n h d_Md_path_90 rfl ?_
                                     refine ri_iload_n h d_Md_path_91 rfl ?_
                                     refine ri_iload_n h d_Md_path_92 rfl ?_
                                     refine ri_lload_n h d_Md_path_93 rfl ?_
                                     refine ri_iload h d_Md_path_94 rfl ?_
                                     contradiction)
                                · first
                                  | (exfalso; first | exact absurd c_83 (by decide) | first | contradiction | omega)
                                  | (refine ri_iconstN h 0 d_Md_path_86 rfl ?_
                                     refine ri_goto h 99 d_Md_path_87 (by decide) ?_
                                     refine ri_ireturn h d_Md_path_99 (Nat.le_of_ble_eq_true rfl) (Nat.le_of_ble_eq_true rfl) ?_
                                     exact ⟨rfl, _, hS, rfl⟩))
                           · first
                             | (exfalso; first | exact absurd c_56 (by decide) | first | contradiction | omega)
                             | (refine ri_iload h d_Md_path_60 rfl ?_
                                refine ri_if_lt h 71 d_Md_path_62 (by decide) (fun c_62 => ?_) (fun c_62 => ?_)
                                · first
                                  | (exfalso; first | exact absurd c_62 (by decide) | first | contradiction | omega)
                                  | (refine ri_iconstN h 3 d_Md_path_71 rfl ?_
                                     refine ri_goto h 76 d_Md_path_72 (by decide) ?_
                                     refine ri_pm_code h d_Md_path_76 fl_Md_108 hS (fun M hS => ?_)
                                     refine ri_aload_n h d_Md_path_79 rfl ?_
                                     refine ri_get h d_Md_path_80 fl_Md_108 (by first | assumption | exact hS.mo | exact gup_s) (by rfl) ?_
                                     try dsimp only [MS.code, MS.set_code]
                                     first | refine ri_ifN_le h 90 d_Md_path_83 (by decide) (by omega) (fun c_83 => ?_) (fun c_83 => ?_) | refine ri_if_le h 90 d_Md_path_83 (by decide) (fun c_83 => ?_) (fun c_83 => ?_)
                                     · first
                                       | (exfalso; first | exact absurd c_83 (by decide) | first | contradiction | omega)
                                       | (refine ri_aload_n h d_Md_path_90 rfl ?_
                                          refine ri_iload_n h d_Md_path_91 rfl ?_
                                          refine ri_iload_n h d_Md_path_92 rfl ?_
                                          refine ri_lload_n h d_Md_path_93 rfl ?_
                                          refine ri_iload h d_Md_path_94 rfl ?_
                                          contradiction)
                                     · first
                                       | (exfalso; first | exact absurd c_83 (by decide) | first | contradiction | omega)
                                       | (refine ri_iconstN h 0 d_Md_path_86 rfl ?_
                                          refine ri_goto h 99 d_Md_path_87 (by decide) ?_
                                          refine ri_ireturn h d_Md_path_99 (Nat.le_of_ble_eq_true rfl) (Nat.le_of_ble_eq_true rfl) ?_
                                          exact ⟨rfl, _, hS, rfl⟩))
                                · first
                                  | (exfalso; first | exact absurd c_62 (by decide) | first | contradiction | omega)
                                  | (refine ri_iload h d_Md_path_65 rfl ?_
                                     refine ri_iconstN h 1 d_Md_path_67 rfl ?_
                                     refine ri_icmp_le h 75 d_Md_path_68 (by decide) (fun c_68 => ?_) (fun c_68 => ?_)
                                     · first
                                       | (exfalso; first | exact absurd c_68 (by decide) | first | contradiction | omega)
                                       | (exact absurd ⟨⟨c_38, c_46, c_56⟩, c_62, c_68⟩ hw)
                                     · first
                                       | (exfalso; first | exact absurd c_68 (by decide) | first | contradiction | omega)
                                       | (refine ri_iconstN h 3 d_Md_path_71 rfl ?_
                                          refine ri_goto h 76 d_Md_path_72 (by decide) ?_
                                          refine ri_pm_code h d_Md_path_76 fl_Md_108 hS (fun M hS => ?_)
                                          refine ri_aload_n h d_Md_path_79 rfl ?_
                                          refine ri_get h d_Md_path_80 fl_Md_108 (by first | assumption | exact hS.mo | exact gup_s) (by rfl) ?_
                                          try dsimp only [MS.code, MS.set_code]
                                          first | refine ri_ifN_le h 90 d_Md_path_83 (by decide) (by omega) (fun c_83 => ?_) (fun c_83 => ?_) | refine ri_if_le h 90 d_Md_path_83 (by decide) (fun c_83 => ?_) (fun c_83 => ?_)
                                          · first
                                            | (exfalso; first | exact absurd c_83 (by decide) | first | contradiction | omega)
                                            | (refine ri_aload_n h d_Md_path_90 rfl ?_
                                               refine ri_iload_n h d_Md_path_91 rfl ?_
                                               refine ri_iload_n h d_Md_path_92 rfl ?_
                                               refine ri_lload_n h d_Md_path_93 rfl ?_
                                               refine ri_iload h d_Md_path_94 rfl ?_
                                               contradiction)
                                          · first
                                            | (exfalso; first | exact absurd c_83 (by decide) | first | contradiction | omega)
                                            | (refine ri_iconstN h 0 d_Md_path_86 rfl ?_
                                               refine ri_goto h 99 d_Md_path_87 (by decide) ?_
                                               refine ri_ireturn h d_Md_path_99 (Nat.le_of_ble_eq_true rfl) (Nat.le_of_ble_eq_true rfl) ?_
                                               exact ⟨rfl, _, hS, rfl⟩)))))))
            · first
              | (exfalso; first | exact absurd c_27 (by decide) | first | contradiction | omega)
              | (refine ri_iconstN h 2 d_Md_path_30 rfl ?_
                 refine ri_goto h 76 d_Md_path_31 (by decide) ?_
                 refine ri_pm_code h d_Md_path_76 fl_Md_108 hS (fun M hS => ?_)
                 refine ri_aload_n h d_Md_path_79 rfl ?_
                 refine ri_get h d_Md_path_80 fl_Md_108 (by first | assumption | exact hS.mo | exact gup_s) (by rfl) ?_
                 try dsimp only [MS.code, MS.set_code]
                 first | refine ri_ifN_le h 90 d_Md_path_83 (by decide) (by omega) (fun c_83 => ?_) (fun c_83 => ?_) | refine ri_if_le h 90 d_Md_path_83 (by decide) (fun c_83 => ?_) (fun c_83 => ?_)
                 · first
                   | (exfalso; first | exact absurd c_83 (by decide) | first | contradiction | omega)
                   | (refine ri_aload_n h d_Md_path_90 rfl ?_
                      refine ri_iload_n h d_Md_path_91 rfl ?_
                      refine ri_iload_n h d_Md_path_92 rfl ?_
                      refine ri_lload_n h d_Md_path_93 rfl ?_
                      refine ri_iload h d_Md_path_94 rfl ?_
                      contradiction)
                 · first
                   | (exfalso; first | exact absurd c_83 (by decide) | first | contradiction | omega)
                   | (refine ri_iconstN h 0 d_Md_path_86 rfl ?_
                      refine ri_goto h 99 d_Md_path_87 (by decide) ?_
                      refine ri_ireturn h d_Md_path_99 (Nat.le_of_ble_eq_true rfl) (Nat.le_of_ble_eq_true rfl) ?_
                      exact ⟨rfl, _, hS, rfl⟩)))
       · first
         | (exfalso; first | exact absurd c_14 (by decide) | first | contradiction | omega)
         | (refine ri_iconstN h 1 d_Md_path_17 rfl ?_
            refine ri_goto h 76 d_Md_path_18 (by decide) ?_
            refine ri_pm_code h d_Md_path_76 fl_Md_108 hS (fun M hS => ?_)
            refine ri_aload_n h d_Md_path_79 rfl ?_
            refine ri_get h d_Md_path_80 fl_Md_108 (by first | assumption | exact hS.mo | exact gup_s) (by rfl) ?_
            try dsimp only [MS.code, MS.set_code]
            first | refine ri_ifN_le h 90 d_Md_path_83 (by decide) (by omega) (fun c_83 => ?_) (fun c_83 => ?_) | refine ri_if_le h 90 d_Md_path_83 (by decide) (fun c_83 => ?_) (fun c_83 => ?_)
            · first
              | (exfalso; first | exact absurd c_83 (by decide) | first | contradiction | omega)
              | (refine ri_aload_n h d_Md_path_90 rfl ?_
                 refine ri_iload_n h d_Md_path_91 rfl ?_
                 refine ri_iload_n h d_Md_path_92 rfl ?_
                 refine ri_lload_n h d_Md_path_93 rfl ?_
                 refine ri_iload h d_Md_path_94 rfl ?_
                 contradiction)
            · first
              | (exfalso; first | exact absurd c_83 (by decide) | first | contradiction | omega)
              | (refine ri_iconstN h 0 d_Md_path_86 rfl ?_
                 refine ri_goto h 99 d_Md_path_87 (by decide) ?_
                 refine ri_ireturn h d_Md_path_99 (Nat.le_of_ble_eq_true rfl) (Nat.le_of_ble_eq_true rfl) ?_
                 exact ⟨rfl, _, hS, rfl⟩)))
theorem k_fault0_1 (h0 : g_0 l D s0) (hS : HS z ad Qc N M) (hm : MR Q N) (hW : WB Q) {v : Int32} {x y : Int64} (hn : ¬ ∃ s, s < Q.nS ∧ v = nI s ∧ (Q.sh s).drop = 0 ∧ spath (Q.sh s).w = 0) : Ct l D s0 y_Md_faultOf (Cond.code y_Md_faultOf b_Md_faultOf 8 (some .int)) (rk 1 0 0) [.ref (ad 30 0), .int v, .int (nI 0), .long x, .long y] M (fR (some (.int (nI 1))) M) := by
  have hb1 := hW.2.1
  have hns := hm.ns
  by_cases hv : ∃ s, s < Q.nS ∧ v = nI s
  · obtain ⟨s, hs, rfl⟩ := hv
    refine Ct.of h0 (by decide +kernel) rfl fun X hX h => ?_
    obtain ⟨p_, l', e_, R_, s_, m_, ar_, be_, me_, c_⟩ := X
    obtain rfl : l' = l := hX
    refine ri_iload_n h d_Md_faultOf_0 rfl ?_
    refine ri_ifM_lt h 45 d_Md_faultOf_1 (by decide) (by omega) (fun c_1 => ?_) (fun c_1 => ?_)
    · exact c_1.elim
    · first
      | (exfalso; first | exact absurd c_1 (by decide) | omega)
      | (refine ri_iload_n h d_Md_faultOf_4 rfl ?_
         refine ri_aload_n h d_Md_faultOf_5 rfl ?_
         refine ri_get h d_Md_faultOf_6 fl_Md_118 (by first | assumption | exact hS.mo | exact gup_s) (by rfl) ?_
         first | refine ri_icmpN_ge h 45 d_Md_faultOf_9 (by decide) (by omega) (by omega) (fun c_9 => ?_) (fun c_9 => ?_) | refine ri_icmp_ge h 45 d_Md_faultOf_9 (by decide) (fun c_9 => ?_) (fun c_9 => ?_)
         · first
           | (exfalso; first | exact absurd c_9 (by decide) | omega)
           | (refine ri_iconstN h 0 d_Md_faultOf_45 rfl ?_
              refine ri_istore h d_Md_faultOf_46 (Nat.le_of_ble_eq_true rfl) ?_
              refine ri_iload h d_Md_faultOf_48 rfl ?_
              first | refine ri_ifB_ne h 57 d_Md_faultOf_50 (by decide) (fun c_50 => ?_) (fun c_50 => ?_) | refine ri_ifN_ne h 57 d_Md_faultOf_50 (by decide) (by omega) (fun c_50 => ?_) (fun c_50 => ?_) | refine ri_if_ne h 57 d_Md_faultOf_50 (by decide) (fun c_50 => ?_) (fun c_50 => ?_)
              · first
                | (exfalso; first | exact absurd c_50 (by decide) | omega)
                | ((exfalso; first | exact hn ⟨s, hs, rfl, c_18, by simp [spath, Int64.not_lt.mpr c_28]⟩ | omega | contradiction))
              · first
                | (exfalso; first | exact absurd c_50 (by decide) | omega)
                | (refine ri_iconstN h 1 d_Md_faultOf_53 rfl ?_
                   refine ri_goto h 92 d_Md_faultOf_54 (by decide) ?_
                   refine ri_ireturn h d_Md_faultOf_92 (Nat.le_of_ble_eq_true rfl) (Nat.le_of_ble_eq_true rfl) ?_
                   exact ⟨rfl, rfl⟩))
         · first
           | (exfalso; first | exact absurd c_9 (by decide) | omega)
           | (refine ri_aload_n h d_Md_faultOf_12 rfl ?_
              refine ri_get h d_Md_faultOf_13 fl_Md_26 (by first | assumption | exact hS.mo | exact gup_s) (by rfl) ?_
              refine ri_iload_n h d_Md_faultOf_16 rfl ?_
              refine ri_zaldE h _ d_Md_faultOf_17 (by first | assumption | exact hS.a8) (by first | rfl | assumption) (by first | assumption | omega) (by first | decide | omega) (by first | assumption | exact hm.i8 (by first | assumption | omega) | rfl) ?_
              refine ri_if_ne h 45 d_Md_faultOf_18 (by decide) (fun c_18 => ?_) (fun c_18 => ?_)
              · first
                | (exfalso; first | exact absurd c_18 (by decide) | omega)
                | (refine ri_iconstN h 0 d_Md_faultOf_45 rfl ?_
                   refine ri_istore h d_Md_faultOf_46 (Nat.le_of_ble_eq_true rfl) ?_
                   refine ri_iload h d_Md_faultOf_48 rfl ?_
                   first | refine ri_ifB_ne h 57 d_Md_faultOf_50 (by decide) (fun c_50 => ?_) (fun c_50 => ?_) | refine ri_ifN_ne h 57 d_Md_faultOf_50 (by decide) (by omega) (fun c_50 => ?_) (fun c_50 => ?_) | refine ri_if_ne h 57 d_Md_faultOf_50 (by decide) (fun c_50 => ?_) (fun c_50 => ?_)
                   · first
                     | (exfalso; first | exact absurd c_50 (by decide) | omega)
                     | ((exfalso; first | exact hn ⟨s, hs, rfl, c_18, by simp [spath, Int64.not_lt.mpr c_28]⟩ | omega | contradiction))
                   · first
                     | (exfalso; first | exact absurd c_50 (by decide) | omega)
                     | (refine ri_iconstN h 1 d_Md_faultOf_53 rfl ?_
                        refine ri_goto h 92 d_Md_faultOf_54 (by decide) ?_
                        refine ri_ireturn h d_Md_faultOf_92 (Nat.le_of_ble_eq_true rfl) (Nat.le_of_ble_eq_true rfl) ?_
                        exact ⟨rfl, rfl⟩))
              · first
                | (exfalso; first | exact absurd c_18 (by decide) | omega)
                | (refine ri_aload_n h d_Md_faultOf_21 rfl ?_
                   refine ri_get h d_Md_faultOf_22 fl_Md_16 (by first | assumption | exact hS.mo | exact gup_s) (by rfl) ?_
                   refine ri_iload_n h d_Md_faultOf_25 rfl ?_
                   refine ri_laldE h _ d_Md_faultOf_26 (by first | assumption | exact hS.a5) (by first | rfl | assumption) (by first | assumption | omega) (by first | decide | omega) (by first | assumption | exact hm.i5 (by first | assumption | omega) | rfl) ?_
                   refine ri_lconst h 0 d_Md_faultOf_27 rfl ?_
                   refine ri_lcmp_le h 36 d_Md_faultOf_28 d_Md_faultOf_29 (by decide) (fun c_28 => ?_) (fun c_28 => ?_)
                   · first
                     | (exfalso; first | exact absurd c_28 (by decide) | omega)
                     | (refine ri_iconstN h 0 d_Md_faultOf_36 rfl ?_
                        refine ri_iload_n h d_Md_faultOf_37 rfl ?_
                        first | refine ri_icmpN_ne h 45 d_Md_faultOf_38 (by decide) (by omega) (by omega) (fun c_38 => ?_) (fun c_38 => ?_) | refine ri_icmp_ne h 45 d_Md_faultOf_38 (by decide) (fun c_38 => ?_) (fun c_38 => ?_)
                        · first
                          | (exfalso; first | exact absurd c_38 (by decide) | omega)
                          | (refine ri_iconstN h 0 d_Md_faultOf_45 rfl ?_
                             refine ri_istore h d_Md_faultOf_46 (Nat.le_of_ble_eq_true rfl) ?_
                             refine ri_iload h d_Md_faultOf_48 rfl ?_
                             first | refine ri_ifB_ne h 57 d_Md_faultOf_50 (by decide) (fun c_50 => ?_) (fun c_50 => ?_) | refine ri_ifN_ne h 57 d_Md_faultOf_50 (by decide) (by omega) (fun c_50 => ?_) (fun c_50 => ?_) | refine ri_if_ne h 57 d_Md_faultOf_50 (by decide) (fun c_50 => ?_) (fun c_50 => ?_)
                             · first
                               | (exfalso; first | exact absurd c_50 (by decide) | omega)
                               | ((exfalso; first | exact hn ⟨s, hs, rfl, c_18, by simp [spath, Int64.not_lt.mpr c_28]⟩ | omega | contradiction))
                             · first
                               | (exfalso; first | exact absurd c_50 (by decide) | omega)
                               | (refine ri_iconstN h 1 d_Md_faultOf_53 rfl ?_
                                  refine ri_goto h 92 d_Md_faultOf_54 (by decide) ?_
                                  refine ri_ireturn h d_Md_faultOf_92 (Nat.le_of_ble_eq_true rfl) (Nat.le_of_ble_eq_true rfl) ?_
                                  exact ⟨rfl, rfl⟩))
                        · first
                          | (exfalso; first | exact absurd c_38 (by decide) | omega)
                          | (refine ri_iconstN h 1 d_Md_faultOf_41 rfl ?_
                             refine ri_goto h 46 d_Md_faultOf_42 (by decide) ?_
                             refine ri_istore h d_Md_faultOf_46 (Nat.le_of_ble_eq_true rfl) ?_
                             refine ri_iload h d_Md_faultOf_48 rfl ?_
                             first | refine ri_ifB_ne h 57 d_Md_faultOf_50 (by decide) (fun c_50 => ?_) (fun c_50 => ?_) | refine ri_ifN_ne h 57 d_Md_faultOf_50 (by decide) (by omega) (fun c_50 => ?_) (fun c_50 => ?_) | refine ri_if_ne h 57 d_Md_faultOf_50 (by decide) (fun c_50 => ?_) (fun c_50 => ?_)
                             · first
                               | (exfalso; first | exact absurd c_50 (by decide) | omega)
                               | ((exfalso; first | exact hn ⟨s, hs, rfl, c_18, by simp [spath, Int64.not_lt.mpr c_28]⟩ | omega | contradiction))
                             · first
                               | (exfalso; first | exact absurd c_50 (by decide) | omega)
                               | (refine ri_iconstN h 1 d_Md_faultOf_53 rfl ?_
                                  refine ri_goto h 92 d_Md_faultOf_54 (by decide) ?_
                                  refine ri_ireturn h d_Md_faultOf_92 (Nat.le_of_ble_eq_true rfl) (Nat.le_of_ble_eq_true rfl) ?_
                                  exact ⟨rfl, rfl⟩)))
                   · first
                     | (exfalso; first | exact absurd c_28 (by decide) | omega)
                     | (refine ri_iconstN h 1 d_Md_faultOf_32 rfl ?_
                        refine ri_goto h 37 d_Md_faultOf_33 (by decide) ?_
                        refine ri_iload_n h d_Md_faultOf_37 rfl ?_
                        first | refine ri_icmpN_ne h 45 d_Md_faultOf_38 (by decide) (by omega) (by omega) (fun c_38 => ?_) (fun c_38 => ?_) | refine ri_icmp_ne h 45 d_Md_faultOf_38 (by decide) (fun c_38 => ?_) (fun c_38 => ?_)
                        · first
                          | (exfalso; first | exact absurd c_38 (by decide) | omega)
                          | (refine ri_iconstN h 0 d_Md_faultOf_45 rfl ?_
                             refine ri_istore h d_Md_faultOf_46 (Nat.le_of_ble_eq_true rfl) ?_
                             refine ri_iload h d_Md_faultOf_48 rfl ?_
                             first | refine ri_ifB_ne h 57 d_Md_faultOf_50 (by decide) (fun c_50 => ?_) (fun c_50 => ?_) | refine ri_ifN_ne h 57 d_Md_faultOf_50 (by decide) (by omega) (fun c_50 => ?_) (fun c_50 => ?_) | refine ri_if_ne h 57 d_Md_faultOf_50 (by decide) (fun c_50 => ?_) (fun c_50 => ?_)
                             · first
                               | (exfalso; first | exact absurd c_50 (by decide) | omega)
                               | ((exfalso; first | exact hn ⟨s, hs, rfl, c_18, by simp [spath, Int64.not_lt.mpr c_28]⟩ | omega | contradiction))
                             · first
                               | (exfalso; first | exact absurd c_50 (by decide) | omega)
                               | (refine ri_iconstN h 1 d_Md_faultOf_53 rfl ?_
                                  refine ri_goto h 92 d_Md_faultOf_54 (by decide) ?_
                                  refine ri_ireturn h d_Md_faultOf_92 (Nat.le_of_ble_eq_true rfl) (Nat.le_of_ble_eq_true rfl) ?_
                                  exact ⟨rfl, rfl⟩))
                        · first
                          | (exfalso; first | exact absurd c_38 (by decide) | omega)
                          | (refine ri_iconstN h 1 d_Md_faultOf_41 rfl ?_
                             refine ri_goto h 46 d_Md_faultOf_42 (by decide) ?_
                             refine ri_istore h d_Md_faultOf_46 (Nat.le_of_ble_eq_true rfl) ?_
                             refine ri_iload h d_Md_faultOf_48 rfl ?_
                             first | refine ri_ifB_ne h 57 d_Md_faultOf_50 (by decide) (fun c_50 => ?_) (fun c_50 => ?_) | refine ri_ifN_ne h 57 d_Md_faultOf_50 (by decide) (by omega) (fun c_50 => ?_) (fun c_50 => ?_) | refine ri_if_ne h 57 d_Md_faultOf_50 (by decide) (fun c_50 => ?_) (fun c_50 => ?_)
                             · first
                               | (exfalso; first | exact absurd c_50 (by decide) | omega)
                               | ((exfalso; first | exact hn ⟨s, hs, rfl, c_18, by simp [spath, Int64.not_lt.mpr c_28]⟩ | omega | contradiction))
                             · first
                               | (exfalso; first | exact absurd c_50 (by decide) | omega)
                               | (refine ri_iconstN h 1 d_Md_faultOf_53 rfl ?_
                                  refine ri_goto h 92 d_Md_faultOf_54 (by decide) ?_
                                  refine ri_ireturn h d_Md_faultOf_92 (Nat.le_of_ble_eq_true rfl) (Nat.le_of_ble_eq_true rfl) ?_
                                  exact ⟨rfl, rfl⟩))))))
  · refine Ct.of h0 (by decide +kernel) rfl fun X hX h => ?_
    obtain ⟨p_, l', e_, R_, s_, m_, ar_, be_, me_, c_⟩ := X
    obtain rfl : l' = l := hX
    refine ri_iload_n h d_Md_faultOf_0 rfl ?_
    refine ri_if_lt h 45 d_Md_faultOf_1 (by decide) (fun c_1 => ?_) (fun c_1 => ?_)
    · first
      | (exfalso; first | exact absurd c_1 (by decide) | first | contradiction | omega)
      | (refine ri_iconstN h 0 d_Md_faultOf_45 rfl ?_
         refine ri_istore h d_Md_faultOf_46 (Nat.le_of_ble_eq_true rfl) ?_
         refine ri_iload h d_Md_faultOf_48 rfl ?_
         first | refine ri_ifB_ne h 57 d_Md_faultOf_50 (by decide) (fun c_50 => ?_) (fun c_50 => ?_) | refine ri_ifN_ne h 57 d_Md_faultOf_50 (by decide) (by omega) (fun c_50 => ?_) (fun c_50 => ?_) | refine ri_if_ne h 57 d_Md_faultOf_50 (by decide) (fun c_50 => ?_) (fun c_50 => ?_)
         · first
           | (exfalso; first | exact absurd c_50 (by decide) | first | contradiction | omega)
           | (refine ri_aload_n h d_Md_faultOf_57 rfl ?_
              refine ri_get h d_Md_faultOf_58 fl_Md_23 (by first | assumption | exact hS.mo | exact gup_s) (by rfl) ?_
              refine ri_iload_n h d_Md_faultOf_61 rfl ?_
              refine ri_ialdE h _ d_Md_faultOf_62 (by first | assumption | exact hS.a7) (by first | rfl | assumption) (by first | assumption | omega) (by first | decide | omega) (by first | assumption | exact hm.i7 (by first | assumption | omega) | rfl) ?_
              refine ri_bipushN h 24 d_Md_faultOf_63 rfl ?_
              first | refine ri_icmpN_ne h 72 d_Md_faultOf_65 (by decide) (by omega) (by omega) (fun c_65 => ?_) (fun c_65 => ?_) | refine ri_icmp_ne h 72 d_Md_faultOf_65 (by decide) (fun c_65 => ?_) (fun c_65 => ?_)
              · first
                | (exfalso; first | exact absurd c_65 (by decide) | first | contradiction | omega)
                | (refine ri_lload_n h d_Md_faultOf_72 rfl ?_
                   refine ri_cSv_1 h d_Md_faultOf_73 cs_Md_136 (k_far h0) (Nat.le_of_ble_eq_true rfl) (Nat.le_of_ble_eq_true rfl) (Nat.le_of_ble_eq_true rfl) (Nat.le_of_ble_eq_true rfl) (Nat.le_of_ble_eq_true rfl) ?_
                   first | refine ri_ifB_ne h 87 d_Md_faultOf_76 (by decide) (fun c_76 => ?_) (fun c_76 => ?_) | refine ri_ifN_ne h 87 d_Md_faultOf_76 (by decide) (by omega) (fun c_76 => ?_) (fun c_76 => ?_) | refine ri_if_ne h 87 d_Md_faultOf_76 (by decide) (fun c_76 => ?_) (fun c_76 => ?_)
                   · first
                     | (exfalso; first | exact absurd c_76 (by decide) | first | contradiction | omega)
                     | (refine ri_iconstN h 3 d_Md_faultOf_87 rfl ?_
                        refine ri_goto h 92 d_Md_faultOf_88 (by decide) ?_
                        refine ri_ireturn h d_Md_faultOf_92 (Nat.le_of_ble_eq_true rfl) (Nat.le_of_ble_eq_true rfl) ?_
                        exact ⟨rfl, rfl⟩)
                   · first
                     | (exfalso; first | exact absurd c_76 (by decide) | first | contradiction | omega)
                     | (refine ri_lload h d_Md_faultOf_79 rfl ?_
                        refine ri_cSv_1 h d_Md_faultOf_81 cs_Md_136 (k_far h0) (Nat.le_of_ble_eq_true rfl) (Nat.le_of_ble_eq_true rfl) (Nat.le_of_ble_eq_true rfl) (Nat.le_of_ble_eq_true rfl) (Nat.le_of_ble_eq_true rfl) ?_
                        first | refine ri_ifB_eq h 91 d_Md_faultOf_84 (by decide) (fun c_84 => ?_) (fun c_84 => ?_) | refine ri_ifN_eq h 91 d_Md_faultOf_84 (by decide) (by omega) (fun c_84 => ?_) (fun c_84 => ?_) | refine ri_if_eq h 91 d_Md_faultOf_84 (by decide) (fun c_84 => ?_) (fun c_84 => ?_)
                        · first
                          | (exfalso; first | exact absurd c_84 (by decide) | first | contradiction | omega)
                          | (refine ri_iconstN h 0 d_Md_faultOf_91 rfl ?_
                             refine ri_ireturn h d_Md_faultOf_92 (Nat.le_of_ble_eq_true rfl) (Nat.le_of_ble_eq_true rfl) ?_
                             exact ⟨rfl, rfl⟩)
                        · first
                          | (exfalso; first | exact absurd c_84 (by decide) | first | contradiction | omega)
                          | (refine ri_iconstN h 3 d_Md_faultOf_87 rfl ?_
                             refine ri_goto h 92 d_Md_faultOf_88 (by decide) ?_
                             refine ri_ireturn h d_Md_faultOf_92 (Nat.le_of_ble_eq_true rfl) (Nat.le_of_ble_eq_true rfl) ?_
                             exact ⟨rfl, rfl⟩)))
              · first
                | (exfalso; first | exact absurd c_65 (by decide) | first | contradiction | omega)
                | (refine ri_iconstN h 2 d_Md_faultOf_68 rfl ?_
                   refine ri_goto h 92 d_Md_faultOf_69 (by decide) ?_
                   refine ri_ireturn h d_Md_faultOf_92 (Nat.le_of_ble_eq_true rfl) (Nat.le_of_ble_eq_true rfl) ?_
                   exact ⟨rfl, rfl⟩))
         · first
           | (exfalso; first | exact absurd c_50 (by decide) | first | contradiction | omega)
           | (refine ri_iconstN h 1 d_Md_faultOf_53 rfl ?_
              refine ri_goto h 92 d_Md_faultOf_54 (by decide) ?_
              refine ri_ireturn h d_Md_faultOf_92 (Nat.le_of_ble_eq_true rfl) (Nat.le_of_ble_eq_true rfl) ?_
              exact ⟨rfl, rfl⟩))
    · first
      | (exfalso; first | exact absurd c_1 (by decide) | first | contradiction | omega)
      | (refine ri_iload_n h d_Md_faultOf_4 rfl ?_
         refine ri_aload_n h d_Md_faultOf_5 rfl ?_
         refine ri_get h d_Md_faultOf_6 fl_Md_118 (by first | assumption | exact hS.mo | exact gup_s) (by rfl) ?_
         refine ri_icmp_ge h 45 d_Md_faultOf_9 (by decide) (fun c_9 => ?_) (fun c_9 => ?_)
         · first
           | (exfalso; first | exact absurd c_9 (by decide) | first | contradiction | omega)
           | (refine ri_iconstN h 0 d_Md_faultOf_45 rfl ?_
              refine ri_istore h d_Md_faultOf_46 (Nat.le_of_ble_eq_true rfl) ?_
              refine ri_iload h d_Md_faultOf_48 rfl ?_
              first | refine ri_ifB_ne h 57 d_Md_faultOf_50 (by decide) (fun c_50 => ?_) (fun c_50 => ?_) | refine ri_ifN_ne h 57 d_Md_faultOf_50 (by decide) (by omega) (fun c_50 => ?_) (fun c_50 => ?_) | refine ri_if_ne h 57 d_Md_faultOf_50 (by decide) (fun c_50 => ?_) (fun c_50 => ?_)
              · first
                | (exfalso; first | exact absurd c_50 (by decide) | first | contradiction | omega)
                | (refine ri_aload_n h d_Md_faultOf_57 rfl ?_
                   refine ri_get h d_Md_faultOf_58 fl_Md_23 (by first | assumption | exact hS.mo | exact gup_s) (by rfl) ?_
                   refine ri_iload_n h d_Md_faultOf_61 rfl ?_
                   refine ri_ialdE h _ d_Md_faultOf_62 (by first | assumption | exact hS.a7) (by first | rfl | assumption) (by first | assumption | omega) (by first | decide | omega) (by first | assumption | exact hm.i7 (by first | assumption | omega) | rfl) ?_
                   refine ri_bipushN h 24 d_Md_faultOf_63 rfl ?_
                   first | refine ri_icmpN_ne h 72 d_Md_faultOf_65 (by decide) (by omega) (by omega) (fun c_65 => ?_) (fun c_65 => ?_) | refine ri_icmp_ne h 72 d_Md_faultOf_65 (by decide) (fun c_65 => ?_) (fun c_65 => ?_)
                   · first
                     | (exfalso; first | exact absurd c_65 (by decide) | first | contradiction | omega)
                     | (refine ri_lload_n h d_Md_faultOf_72 rfl ?_
                        refine ri_cSv_1 h d_Md_faultOf_73 cs_Md_136 (k_far h0) (Nat.le_of_ble_eq_true rfl) (Nat.le_of_ble_eq_true rfl) (Nat.le_of_ble_eq_true rfl) (Nat.le_of_ble_eq_true rfl) (Nat.le_of_ble_eq_true rfl) ?_
                        first | refine ri_ifB_ne h 87 d_Md_faultOf_76 (by decide) (fun c_76 => ?_) (fun c_76 => ?_) | refine ri_ifN_ne h 87 d_Md_faultOf_76 (by decide) (by omega) (fun c_76 => ?_) (fun c_76 => ?_) | refine ri_if_ne h 87 d_Md_faultOf_76 (by decide) (fun c_76 => ?_) (fun c_76 => ?_)
                        · first
                          | (exfalso; first | exact absurd c_76 (by decide) | first | contradiction | omega)
                          | (refine ri_iconstN h 3 d_Md_faultOf_87 rfl ?_
                             refine ri_goto h 92 d_Md_faultOf_88 (by decide) ?_
                             refine ri_ireturn h d_Md_faultOf_92 (Nat.le_of_ble_eq_true rfl) (Nat.le_of_ble_eq_true rfl) ?_
                             exact ⟨rfl, rfl⟩)
                        · first
                          | (exfalso; first | exact absurd c_76 (by decide) | first | contradiction | omega)
                          | (refine ri_lload h d_Md_faultOf_79 rfl ?_
                             refine ri_cSv_1 h d_Md_faultOf_81 cs_Md_136 (k_far h0) (Nat.le_of_ble_eq_true rfl) (Nat.le_of_ble_eq_true rfl) (Nat.le_of_ble_eq_true rfl) (Nat.le_of_ble_eq_true rfl) (Nat.le_of_ble_eq_true rfl) ?_
                             first | refine ri_ifB_eq h 91 d_Md_faultOf_84 (by decide) (fun c_84 => ?_) (fun c_84 => ?_) | refine ri_ifN_eq h 91 d_Md_faultOf_84 (by decide) (by omega) (fun c_84 => ?_) (fun c_84 => ?_) | refine ri_if_eq h 91 d_Md_faultOf_84 (by decide) (fun c_84 => ?_) (fun c_84 => ?_)
                             · first
                               | (exfalso; first | exact absurd c_84 (by decide) | first | contradiction | omega)
                               | (refine ri_iconstN h 0 d_Md_faultOf_91 rfl ?_
                                  refine ri_ireturn h d_Md_faultOf_92 (Nat.le_of_ble_eq_true rfl) (Nat.le_of_ble_eq_true rfl) ?_
                                  exact ⟨rfl, rfl⟩)
                             · first
                               | (exfalso; first | exact absurd c_84 (by decide) | first | contradiction | omega)
                               | (refine ri_iconstN h 3 d_Md_faultOf_87 rfl ?_
                                  refine ri_goto h 92 d_Md_faultOf_88 (by decide) ?_
                                  refine ri_ireturn h d_Md_faultOf_92 (Nat.le_of_ble_eq_true rfl) (Nat.le_of_ble_eq_true rfl) ?_
                                  exact ⟨rfl, rfl⟩)))
                   · first
                     | (exfalso; first | exact absurd c_65 (by decide) | first | contradiction | omega)
                     | (refine ri_iconstN h 2 d_Md_faultOf_68 rfl ?_
                        refine ri_goto h 92 d_Md_faultOf_69 (by decide) ?_
                        refine ri_ireturn h d_Md_faultOf_92 (Nat.le_of_ble_eq_true rfl) (Nat.le_of_ble_eq_true rfl) ?_
                        exact ⟨rfl, rfl⟩))
              · first
                | (exfalso; first | exact absurd c_50 (by decide) | first | contradiction | omega)
                | (refine ri_iconstN h 1 d_Md_faultOf_53 rfl ?_
                   refine ri_goto h 92 d_Md_faultOf_54 (by decide) ?_
                   refine ri_ireturn h d_Md_faultOf_92 (Nat.le_of_ble_eq_true rfl) (Nat.le_of_ble_eq_true rfl) ?_
                   exact ⟨rfl, rfl⟩))
         · first
           | (exfalso; first | exact absurd c_9 (by decide) | first | contradiction | omega)
           | (exact absurd (ix_of (by omega) c_1 (hns ▸ Int32.not_le.mp c_9)) hv))
theorem k_fault0_2 (h0 : g_0 l D s0) (hS : HS z ad Qc N M) (hm : MR Q N) (hW : WB Q) {s : Nat} (hs : s < Q.nS) (hd : (Q.sh s).drop = 0) (hp : spath (Q.sh s).w = 0) {x y : Int64} (hc : (Q.sh s).cnt = 24) : Ct l D s0 y_Md_faultOf (Cond.code y_Md_faultOf b_Md_faultOf 8 (some .int)) (rk 1 0 0) [.ref (ad 30 0), .int (nI s), .int (nI 0), .long x, .long y] M (fR (some (.int (nI 2))) M) := by
  have hb1 := hW.2.1
  have hns := hm.ns
  have hw : ¬ 0 < (Q.sh s).w := by
    by_cases q : 0 < (Q.sh s).w
    · exact absurd hp (by simp [spath, q])
    · exact q
  have hw := Int64.not_lt.mp hw
  refine Ct.of h0 (by decide +kernel) rfl fun X hX h => ?_
  obtain ⟨p_, l', e_, R_, s_, m_, ar_, be_, me_, c_⟩ := X
  obtain rfl : l' = l := hX
  refine ri_iload_n h d_Md_faultOf_0 rfl ?_
  refine ri_ifM_lt h 45 d_Md_faultOf_1 (by decide) (by omega) (fun c_1 => ?_) (fun c_1 => ?_)
  · exact c_1.elim
  · first
    | (exfalso; first | exact absurd c_1 (by decide) | first | contradiction | omega)
    | (refine ri_iload_n h d_Md_faultOf_4 rfl ?_
       refine ri_aload_n h d_Md_faultOf_5 rfl ?_
       refine ri_get h d_Md_faultOf_6 fl_Md_118 (by first | assumption | exact hS.mo | exact gup_s) (by rfl) ?_
       first | refine ri_icmpN_ge h 45 d_Md_faultOf_9 (by decide) (by omega) (by omega) (fun c_9 => ?_) (fun c_9 => ?_) | refine ri_icmp_ge h 45 d_Md_faultOf_9 (by decide) (fun c_9 => ?_) (fun c_9 => ?_)
       · first
         | (exfalso; first | exact absurd c_9 (by decide) | first | contradiction | omega)
         | (refine ri_iconstN h 0 d_Md_faultOf_45 rfl ?_
            refine ri_istore h d_Md_faultOf_46 (Nat.le_of_ble_eq_true rfl) ?_
            refine ri_iload h d_Md_faultOf_48 rfl ?_
            first | refine ri_ifB_ne h 57 d_Md_faultOf_50 (by decide) (fun c_50 => ?_) (fun c_50 => ?_) | refine ri_ifN_ne h 57 d_Md_faultOf_50 (by decide) (by omega) (fun c_50 => ?_) (fun c_50 => ?_) | refine ri_if_ne h 57 d_Md_faultOf_50 (by decide) (fun c_50 => ?_) (fun c_50 => ?_)
            · first
              | (exfalso; first | exact absurd c_50 (by decide) | first | contradiction | omega)
              | (refine ri_aload_n h d_Md_faultOf_57 rfl ?_
                 refine ri_get h d_Md_faultOf_58 fl_Md_23 (by first | assumption | exact hS.mo | exact gup_s) (by rfl) ?_
                 refine ri_iload_n h d_Md_faultOf_61 rfl ?_
                 refine ri_ialdE h _ d_Md_faultOf_62 (by first | assumption | exact hS.a7) (by first | rfl | assumption) (by first | assumption | omega) (by first | decide | omega) (by first | assumption | exact hm.i7 (by first | assumption | omega) | rfl) ?_
                 refine ri_bipushN h 24 d_Md_faultOf_63 rfl ?_
                 first | refine ri_icmpN_ne h 72 d_Md_faultOf_65 (by decide) (by omega) (by omega) (fun c_65 => ?_) (fun c_65 => ?_) | refine ri_icmp_ne h 72 d_Md_faultOf_65 (by decide) (fun c_65 => ?_) (fun c_65 => ?_)
                 · first
                   | (exfalso; first | exact absurd c_65 (by decide) | first | contradiction | omega)
                   | (omega)
                 · first
                   | (exfalso; first | exact absurd c_65 (by decide) | first | contradiction | omega)
                   | (refine ri_iconstN h 2 d_Md_faultOf_68 rfl ?_
                      refine ri_goto h 92 d_Md_faultOf_69 (by decide) ?_
                      refine ri_ireturn h d_Md_faultOf_92 (Nat.le_of_ble_eq_true rfl) (Nat.le_of_ble_eq_true rfl) ?_
                      exact ⟨rfl, rfl⟩))
            · first
              | (exfalso; first | exact absurd c_50 (by decide) | first | contradiction | omega)
              | (refine ri_iconstN h 1 d_Md_faultOf_53 rfl ?_
                 refine ri_goto h 92 d_Md_faultOf_54 (by decide) ?_
                 refine ri_ireturn h d_Md_faultOf_92 (Nat.le_of_ble_eq_true rfl) (Nat.le_of_ble_eq_true rfl) ?_
                 exact ⟨rfl, rfl⟩))
       · first
         | (exfalso; first | exact absurd c_9 (by decide) | first | contradiction | omega)
         | (refine ri_aload_n h d_Md_faultOf_12 rfl ?_
            refine ri_get h d_Md_faultOf_13 fl_Md_26 (by first | assumption | exact hS.mo | exact gup_s) (by rfl) ?_
            refine ri_iload_n h d_Md_faultOf_16 rfl ?_
            refine ri_zaldE h _ d_Md_faultOf_17 (by first | assumption | exact hS.a8) (by first | rfl | assumption) (by first | assumption | omega) (by first | decide | omega) (by first | assumption | exact hm.i8 (by first | assumption | omega) | rfl) ?_
            refine ri_if_ne h 45 d_Md_faultOf_18 (by decide) (fun c_18 => ?_) (fun c_18 => ?_)
            · first
              | (exfalso; first | exact absurd c_18 (by decide) | first | contradiction | omega)
              | (refine ri_iconstN h 0 d_Md_faultOf_45 rfl ?_
                 refine ri_istore h d_Md_faultOf_46 (Nat.le_of_ble_eq_true rfl) ?_
                 refine ri_iload h d_Md_faultOf_48 rfl ?_
                 first | refine ri_ifB_ne h 57 d_Md_faultOf_50 (by decide) (fun c_50 => ?_) (fun c_50 => ?_) | refine ri_ifN_ne h 57 d_Md_faultOf_50 (by decide) (by omega) (fun c_50 => ?_) (fun c_50 => ?_) | refine ri_if_ne h 57 d_Md_faultOf_50 (by decide) (fun c_50 => ?_) (fun c_50 => ?_)
                 · first
                   | (exfalso; first | exact absurd c_50 (by decide) | first | contradiction | omega)
                   | (refine ri_aload_n h d_Md_faultOf_57 rfl ?_
                      refine ri_get h d_Md_faultOf_58 fl_Md_23 (by first | assumption | exact hS.mo | exact gup_s) (by rfl) ?_
                      refine ri_iload_n h d_Md_faultOf_61 rfl ?_
                      refine ri_ialdE h _ d_Md_faultOf_62 (by first | assumption | exact hS.a7) (by first | rfl | assumption) (by first | assumption | omega) (by first | decide | omega) (by first | assumption | exact hm.i7 (by first | assumption | omega) | rfl) ?_
                      refine ri_bipushN h 24 d_Md_faultOf_63 rfl ?_
                      first | refine ri_icmpN_ne h 72 d_Md_faultOf_65 (by decide) (by omega) (by omega) (fun c_65 => ?_) (fun c_65 => ?_) | refine ri_icmp_ne h 72 d_Md_faultOf_65 (by decide) (fun c_65 => ?_) (fun c_65 => ?_)
                      · first
                        | (exfalso; first | exact absurd c_65 (by decide) | first | contradiction | omega)
                        | (omega)
                      · first
                        | (exfalso; first | exact absurd c_65 (by decide) | first | contradiction | omega)
                        | (refine ri_iconstN h 2 d_Md_faultOf_68 rfl ?_
                           refine ri_goto h 92 d_Md_faultOf_69 (by decide) ?_
                           refine ri_ireturn h d_Md_faultOf_92 (Nat.le_of_ble_eq_true rfl) (Nat.le_of_ble_eq_true rfl) ?_
                           exact ⟨rfl, rfl⟩))
                 · first
                   | (exfalso; first | exact absurd c_50 (by decide) | first | contradiction | omega)
                   | (refine ri_iconstN h 1 d_Md_faultOf_53 rfl ?_
                      refine ri_goto h 92 d_Md_faultOf_54 (by decide) ?_
                      refine ri_ireturn h d_Md_faultOf_92 (Nat.le_of_ble_eq_true rfl) (Nat.le_of_ble_eq_true rfl) ?_
                      exact ⟨rfl, rfl⟩))
            · first
              | (exfalso; first | exact absurd c_18 (by decide) | first | contradiction | omega)
              | (refine ri_aload_n h d_Md_faultOf_21 rfl ?_
                 refine ri_get h d_Md_faultOf_22 fl_Md_16 (by first | assumption | exact hS.mo | exact gup_s) (by rfl) ?_
                 refine ri_iload_n h d_Md_faultOf_25 rfl ?_
                 refine ri_laldE h _ d_Md_faultOf_26 (by first | assumption | exact hS.a5) (by first | rfl | assumption) (by first | assumption | omega) (by first | decide | omega) (by first | assumption | exact hm.i5 (by first | assumption | omega) | rfl) ?_
                 refine ri_lconst h 0 d_Md_faultOf_27 rfl ?_
                 refine ri_lcmp_le h 36 d_Md_faultOf_28 d_Md_faultOf_29 (by decide) (fun c_28 => ?_) (fun c_28 => ?_)
                 · first
                   | (exfalso; first | exact absurd c_28 (by decide) | first | contradiction | omega)
                   | (refine ri_iconstN h 0 d_Md_faultOf_36 rfl ?_
                      refine ri_iload_n h d_Md_faultOf_37 rfl ?_
                      first | refine ri_icmpN_ne h 45 d_Md_faultOf_38 (by decide) (by omega) (by omega) (fun c_38 => ?_) (fun c_38 => ?_) | refine ri_icmp_ne h 45 d_Md_faultOf_38 (by decide) (fun c_38 => ?_) (fun c_38 => ?_)
                      · first
                        | (exfalso; first | exact absurd c_38 (by decide) | first | contradiction | omega)
                        | (refine ri_iconstN h 0 d_Md_faultOf_45 rfl ?_
                           refine ri_istore h d_Md_faultOf_46 (Nat.le_of_ble_eq_true rfl) ?_
                           refine ri_iload h d_Md_faultOf_48 rfl ?_
                           first | refine ri_ifB_ne h 57 d_Md_faultOf_50 (by decide) (fun c_50 => ?_) (fun c_50 => ?_) | refine ri_ifN_ne h 57 d_Md_faultOf_50 (by decide) (by omega) (fun c_50 => ?_) (fun c_50 => ?_) | refine ri_if_ne h 57 d_Md_faultOf_50 (by decide) (fun c_50 => ?_) (fun c_50 => ?_)
                           · first
                             | (exfalso; first | exact absurd c_50 (by decide) | first | contradiction | omega)
                             | (refine ri_aload_n h d_Md_faultOf_57 rfl ?_
                                refine ri_get h d_Md_faultOf_58 fl_Md_23 (by first | assumption | exact hS.mo | exact gup_s) (by rfl) ?_
                                refine ri_iload_n h d_Md_faultOf_61 rfl ?_
                                refine ri_ialdE h _ d_Md_faultOf_62 (by first | assumption | exact hS.a7) (by first | rfl | assumption) (by first | assumption | omega) (by first | decide | omega) (by first | assumption | exact hm.i7 (by first | assumption | omega) | rfl) ?_
                                refine ri_bipushN h 24 d_Md_faultOf_63 rfl ?_
                                first | refine ri_icmpN_ne h 72 d_Md_faultOf_65 (by decide) (by omega) (by omega) (fun c_65 => ?_) (fun c_65 => ?_) | refine ri_icmp_ne h 72 d_Md_faultOf_65 (by decide) (fun c_65 => ?_) (fun c_65 => ?_)
                                · first
                                  | (exfalso; first | exact absurd c_65 (by decide) | first | contradiction | omega)
                                  | (omega)
                                · first
                                  | (exfalso; first | exact absurd c_65 (by decide) | first | contradiction | omega)
                                  | (refine ri_iconstN h 2 d_Md_faultOf_68 rfl ?_
                                     refine ri_goto h 92 d_Md_faultOf_69 (by decide) ?_
                                     refine ri_ireturn h d_Md_faultOf_92 (Nat.le_of_ble_eq_true rfl) (Nat.le_of_ble_eq_true rfl) ?_
                                     exact ⟨rfl, rfl⟩))
                           · first
                             | (exfalso; first | exact absurd c_50 (by decide) | first | contradiction | omega)
                             | (refine ri_iconstN h 1 d_Md_faultOf_53 rfl ?_
                                refine ri_goto h 92 d_Md_faultOf_54 (by decide) ?_
                                refine ri_ireturn h d_Md_faultOf_92 (Nat.le_of_ble_eq_true rfl) (Nat.le_of_ble_eq_true rfl) ?_
                                exact ⟨rfl, rfl⟩))
                      · first
                        | (exfalso; first | exact absurd c_38 (by decide) | first | contradiction | omega)
                        | (refine ri_iconstN h 1 d_Md_faultOf_41 rfl ?_
                           refine ri_goto h 46 d_Md_faultOf_42 (by decide) ?_
                           refine ri_istore h d_Md_faultOf_46 (Nat.le_of_ble_eq_true rfl) ?_
                           refine ri_iload h d_Md_faultOf_48 rfl ?_
                           first | refine ri_ifB_ne h 57 d_Md_faultOf_50 (by decide) (fun c_50 => ?_) (fun c_50 => ?_) | refine ri_ifN_ne h 57 d_Md_faultOf_50 (by decide) (by omega) (fun c_50 => ?_) (fun c_50 => ?_) | refine ri_if_ne h 57 d_Md_faultOf_50 (by decide) (fun c_50 => ?_) (fun c_50 => ?_)
                           · first
                             | (exfalso; first | exact absurd c_50 (by decide) | first | contradiction | omega)
                             | (refine ri_aload_n h d_Md_faultOf_57 rfl ?_
                                refine ri_get h d_Md_faultOf_58 fl_Md_23 (by first | assumption | exact hS.mo | exact gup_s) (by rfl) ?_
                                refine ri_iload_n h d_Md_faultOf_61 rfl ?_
                                refine ri_ialdE h _ d_Md_faultOf_62 (by first | assumption | exact hS.a7) (by first | rfl | assumption) (by first | assumption | omega) (by first | decide | omega) (by first | assumption | exact hm.i7 (by first | assumption | omega) | rfl) ?_
                                refine ri_bipushN h 24 d_Md_faultOf_63 rfl ?_
                                first | refine ri_icmpN_ne h 72 d_Md_faultOf_65 (by decide) (by omega) (by omega) (fun c_65 => ?_) (fun c_65 => ?_) | refine ri_icmp_ne h 72 d_Md_faultOf_65 (by decide) (fun c_65 => ?_) (fun c_65 => ?_)
                                · first
                                  | (exfalso; first | exact absurd c_65 (by decide) | first | contradiction | omega)
                                  | (omega)
                                · first
                                  | (exfalso; first | exact absurd c_65 (by decide) | first | contradiction | omega)
                                  | (refine ri_iconstN h 2 d_Md_faultOf_68 rfl ?_
                                     refine ri_goto h 92 d_Md_faultOf_69 (by decide) ?_
                                     refine ri_ireturn h d_Md_faultOf_92 (Nat.le_of_ble_eq_true rfl) (Nat.le_of_ble_eq_true rfl) ?_
                                     exact ⟨rfl, rfl⟩))
                           · first
                             | (exfalso; first | exact absurd c_50 (by decide) | first | contradiction | omega)
                             | (refine ri_iconstN h 1 d_Md_faultOf_53 rfl ?_
                                refine ri_goto h 92 d_Md_faultOf_54 (by decide) ?_
                                refine ri_ireturn h d_Md_faultOf_92 (Nat.le_of_ble_eq_true rfl) (Nat.le_of_ble_eq_true rfl) ?_
                                exact ⟨rfl, rfl⟩)))
                 · first
                   | (exfalso; first | exact absurd c_28 (by decide) | first | contradiction | omega)
                   | (refine ri_iconstN h 1 d_Md_faultOf_32 rfl ?_
                      refine ri_goto h 37 d_Md_faultOf_33 (by decide) ?_
                      refine ri_iload_n h d_Md_faultOf_37 rfl ?_
                      first | refine ri_icmpN_ne h 45 d_Md_faultOf_38 (by decide) (by omega) (by omega) (fun c_38 => ?_) (fun c_38 => ?_) | refine ri_icmp_ne h 45 d_Md_faultOf_38 (by decide) (fun c_38 => ?_) (fun c_38 => ?_)
                      · first
                        | (exfalso; first | exact absurd c_38 (by decide) | first | contradiction | omega)
                        | (refine ri_iconstN h 0 d_Md_faultOf_45 rfl ?_
                           refine ri_istore h d_Md_faultOf_46 (Nat.le_of_ble_eq_true rfl) ?_
                           refine ri_iload h d_Md_faultOf_48 rfl ?_
                           first | refine ri_ifB_ne h 57 d_Md_faultOf_50 (by decide) (fun c_50 => ?_) (fun c_50 => ?_) | refine ri_ifN_ne h 57 d_Md_faultOf_50 (by decide) (by omega) (fun c_50 => ?_) (fun c_50 => ?_) | refine ri_if_ne h 57 d_Md_faultOf_50 (by decide) (fun c_50 => ?_) (fun c_50 => ?_)
                           · first
                             | (exfalso; first | exact absurd c_50 (by decide) | first | contradiction | omega)
                             | (refine ri_aload_n h d_Md_faultOf_57 rfl ?_
                                refine ri_get h d_Md_faultOf_58 fl_Md_23 (by first | assumption | exact hS.mo | exact gup_s) (by rfl) ?_
                                refine ri_iload_n h d_Md_faultOf_61 rfl ?_
                                refine ri_ialdE h _ d_Md_faultOf_62 (by first | assumption | exact hS.a7) (by first | rfl | assumption) (by first | assumption | omega) (by first | decide | omega) (by first | assumption | exact hm.i7 (by first | assumption | omega) | rfl) ?_
                                refine ri_bipushN h 24 d_Md_faultOf_63 rfl ?_
                                first | refine ri_icmpN_ne h 72 d_Md_faultOf_65 (by decide) (by omega) (by omega) (fun c_65 => ?_) (fun c_65 => ?_) | refine ri_icmp_ne h 72 d_Md_faultOf_65 (by decide) (fun c_65 => ?_) (fun c_65 => ?_)
                                · first
                                  | (exfalso; first | exact absurd c_65 (by decide) | first | contradiction | omega)
                                  | (omega)
                                · first
                                  | (exfalso; first | exact absurd c_65 (by decide) | first | contradiction | omega)
                                  | (refine ri_iconstN h 2 d_Md_faultOf_68 rfl ?_
                                     refine ri_goto h 92 d_Md_faultOf_69 (by decide) ?_
                                     refine ri_ireturn h d_Md_faultOf_92 (Nat.le_of_ble_eq_true rfl) (Nat.le_of_ble_eq_true rfl) ?_
                                     exact ⟨rfl, rfl⟩))
                           · first
                             | (exfalso; first | exact absurd c_50 (by decide) | first | contradiction | omega)
                             | (refine ri_iconstN h 1 d_Md_faultOf_53 rfl ?_
                                refine ri_goto h 92 d_Md_faultOf_54 (by decide) ?_
                                refine ri_ireturn h d_Md_faultOf_92 (Nat.le_of_ble_eq_true rfl) (Nat.le_of_ble_eq_true rfl) ?_
                                exact ⟨rfl, rfl⟩))
                      · first
                        | (exfalso; first | exact absurd c_38 (by decide) | first | contradiction | omega)
                        | (refine ri_iconstN h 1 d_Md_faultOf_41 rfl ?_
                           refine ri_goto h 46 d_Md_faultOf_42 (by decide) ?_
                           refine ri_istore h d_Md_faultOf_46 (Nat.le_of_ble_eq_true rfl) ?_
                           refine ri_iload h d_Md_faultOf_48 rfl ?_
                           first | refine ri_ifB_ne h 57 d_Md_faultOf_50 (by decide) (fun c_50 => ?_) (fun c_50 => ?_) | refine ri_ifN_ne h 57 d_Md_faultOf_50 (by decide) (by omega) (fun c_50 => ?_) (fun c_50 => ?_) | refine ri_if_ne h 57 d_Md_faultOf_50 (by decide) (fun c_50 => ?_) (fun c_50 => ?_)
                           · first
                             | (exfalso; first | exact absurd c_50 (by decide) | first | contradiction | omega)
                             | (refine ri_aload_n h d_Md_faultOf_57 rfl ?_
                                refine ri_get h d_Md_faultOf_58 fl_Md_23 (by first | assumption | exact hS.mo | exact gup_s) (by rfl) ?_
                                refine ri_iload_n h d_Md_faultOf_61 rfl ?_
                                refine ri_ialdE h _ d_Md_faultOf_62 (by first | assumption | exact hS.a7) (by first | rfl | assumption) (by first | assumption | omega) (by first | decide | omega) (by first | assumption | exact hm.i7 (by first | assumption | omega) | rfl) ?_
                                refine ri_bipushN h 24 d_Md_faultOf_63 rfl ?_
                                first | refine ri_icmpN_ne h 72 d_Md_faultOf_65 (by decide) (by omega) (by omega) (fun c_65 => ?_) (fun c_65 => ?_) | refine ri_icmp_ne h 72 d_Md_faultOf_65 (by decide) (fun c_65 => ?_) (fun c_65 => ?_)
                                · first
                                  | (exfalso; first | exact absurd c_65 (by decide) | first | contradiction | omega)
                                  | (omega)
                                · first
                                  | (exfalso; first | exact absurd c_65 (by decide) | first | contradiction | omega)
                                  | (refine ri_iconstN h 2 d_Md_faultOf_68 rfl ?_
                                     refine ri_goto h 92 d_Md_faultOf_69 (by decide) ?_
                                     refine ri_ireturn h d_Md_faultOf_92 (Nat.le_of_ble_eq_true rfl) (Nat.le_of_ble_eq_true rfl) ?_
                                     exact ⟨rfl, rfl⟩))
                           · first
                             | (exfalso; first | exact absurd c_50 (by decide) | first | contradiction | omega)
                             | (refine ri_iconstN h 1 d_Md_faultOf_53 rfl ?_
                                refine ri_goto h 92 d_Md_faultOf_54 (by decide) ?_
                                refine ri_ireturn h d_Md_faultOf_92 (Nat.le_of_ble_eq_true rfl) (Nat.le_of_ble_eq_true rfl) ?_
                                exact ⟨rfl, rfl⟩))))))
theorem k_fault0_3 (h0 : g_0 l D s0) (hS : HS z ad Qc N M) (hm : MR Q N) (hW : WB Q) {s : Nat} (hs : s < Q.nS) (hd : (Q.sh s).drop = 0) (hp : spath (Q.sh s).w = 0) {x y : Int64} (hc : (Q.sh s).cnt < 24) (hn : ¬ (nearB x ∧ nearB y)) : Ct l D s0 y_Md_faultOf (Cond.code y_Md_faultOf b_Md_faultOf 8 (some .int)) (rk 1 0 0) [.ref (ad 30 0), .int (nI s), .int (nI 0), .long x, .long y] M (fR (some (.int (nI 3))) M) := by
  have hb1 := hW.2.1
  have hns := hm.ns
  have hw : ¬ 0 < (Q.sh s).w := by
    by_cases q : 0 < (Q.sh s).w
    · exact absurd hp (by simp [spath, q])
    · exact q
  have hw := Int64.not_lt.mp hw
  refine Ct.of h0 (by decide +kernel) rfl fun X hX h => ?_
  obtain ⟨p_, l', e_, R_, s_, m_, ar_, be_, me_, c_⟩ := X
  obtain rfl : l' = l := hX
  refine ri_iload_n h d_Md_faultOf_0 rfl ?_
  refine ri_ifM_lt h 45 d_Md_faultOf_1 (by decide) (by omega) (fun c_1 => ?_) (fun c_1 => ?_)
  · exact c_1.elim
  · first
    | (exfalso; first | exact absurd c_1 (by decide) | first | contradiction | omega)
    | (refine ri_iload_n h d_Md_faultOf_4 rfl ?_
       refine ri_aload_n h d_Md_faultOf_5 rfl ?_
       refine ri_get h d_Md_faultOf_6 fl_Md_118 (by first | assumption | exact hS.mo | exact gup_s) (by rfl) ?_
       first | refine ri_icmpN_ge h 45 d_Md_faultOf_9 (by decide) (by omega) (by omega) (fun c_9 => ?_) (fun c_9 => ?_) | refine ri_icmp_ge h 45 d_Md_faultOf_9 (by decide) (fun c_9 => ?_) (fun c_9 => ?_)
       · first
         | (exfalso; first | exact absurd c_9 (by decide) | first | contradiction | omega)
         | (refine ri_iconstN h 0 d_Md_faultOf_45 rfl ?_
            refine ri_istore h d_Md_faultOf_46 (Nat.le_of_ble_eq_true rfl) ?_
            refine ri_iload h d_Md_faultOf_48 rfl ?_
            first | refine ri_ifB_ne h 57 d_Md_faultOf_50 (by decide) (fun c_50 => ?_) (fun c_50 => ?_) | refine ri_ifN_ne h 57 d_Md_faultOf_50 (by decide) (by omega) (fun c_50 => ?_) (fun c_50 => ?_) | refine ri_if_ne h 57 d_Md_faultOf_50 (by decide) (fun c_50 => ?_) (fun c_50 => ?_)
            · first
              | (exfalso; first | exact absurd c_50 (by decide) | first | contradiction | omega)
              | (refine ri_aload_n h d_Md_faultOf_57 rfl ?_
                 refine ri_get h d_Md_faultOf_58 fl_Md_23 (by first | assumption | exact hS.mo | exact gup_s) (by rfl) ?_
                 refine ri_iload_n h d_Md_faultOf_61 rfl ?_
                 refine ri_ialdE h _ d_Md_faultOf_62 (by first | assumption | exact hS.a7) (by first | rfl | assumption) (by first | assumption | omega) (by first | decide | omega) (by first | assumption | exact hm.i7 (by first | assumption | omega) | rfl) ?_
                 refine ri_bipushN h 24 d_Md_faultOf_63 rfl ?_
                 first | refine ri_icmpN_ne h 72 d_Md_faultOf_65 (by decide) (by omega) (by omega) (fun c_65 => ?_) (fun c_65 => ?_) | refine ri_icmp_ne h 72 d_Md_faultOf_65 (by decide) (fun c_65 => ?_) (fun c_65 => ?_)
                 · first
                   | (exfalso; first | exact absurd c_65 (by decide) | first | contradiction | omega)
                   | (refine ri_lload_n h d_Md_faultOf_72 rfl ?_
                      refine ri_cSv_1 h d_Md_faultOf_73 cs_Md_136 (k_far h0) (Nat.le_of_ble_eq_true rfl) (Nat.le_of_ble_eq_true rfl) (Nat.le_of_ble_eq_true rfl) (Nat.le_of_ble_eq_true rfl) (Nat.le_of_ble_eq_true rfl) ?_
                      first | refine ri_ifB_ne h 87 d_Md_faultOf_76 (by decide) (fun c_76 => ?_) (fun c_76 => ?_) | refine ri_ifN_ne h 87 d_Md_faultOf_76 (by decide) (by omega) (fun c_76 => ?_) (fun c_76 => ?_) | refine ri_if_ne h 87 d_Md_faultOf_76 (by decide) (fun c_76 => ?_) (fun c_76 => ?_)
                      · first
                        | (exfalso; first | exact absurd c_76 (by decide) | first | contradiction | omega)
                        | (refine ri_iconstN h 3 d_Md_faultOf_87 rfl ?_
                           refine ri_goto h 92 d_Md_faultOf_88 (by decide) ?_
                           refine ri_ireturn h d_Md_faultOf_92 (Nat.le_of_ble_eq_true rfl) (Nat.le_of_ble_eq_true rfl) ?_
                           exact ⟨rfl, rfl⟩)
                      · first
                        | (exfalso; first | exact absurd c_76 (by decide) | first | contradiction | omega)
                        | (refine ri_lload h d_Md_faultOf_79 rfl ?_
                           refine ri_cSv_1 h d_Md_faultOf_81 cs_Md_136 (k_far h0) (Nat.le_of_ble_eq_true rfl) (Nat.le_of_ble_eq_true rfl) (Nat.le_of_ble_eq_true rfl) (Nat.le_of_ble_eq_true rfl) (Nat.le_of_ble_eq_true rfl) ?_
                           first | refine ri_ifB_eq h 91 d_Md_faultOf_84 (by decide) (fun c_84 => ?_) (fun c_84 => ?_) | refine ri_ifN_eq h 91 d_Md_faultOf_84 (by decide) (by omega) (fun c_84 => ?_) (fun c_84 => ?_) | refine ri_if_eq h 91 d_Md_faultOf_84 (by decide) (fun c_84 => ?_) (fun c_84 => ?_)
                           · first
                             | (exfalso; first | exact absurd c_84 (by decide) | first | contradiction | omega)
                             | (exact absurd ⟨Classical.byContradiction c_76, Classical.byContradiction c_84⟩ hn)
                           · first
                             | (exfalso; first | exact absurd c_84 (by decide) | first | contradiction | omega)
                             | (refine ri_iconstN h 3 d_Md_faultOf_87 rfl ?_
                                refine ri_goto h 92 d_Md_faultOf_88 (by decide) ?_
                                refine ri_ireturn h d_Md_faultOf_92 (Nat.le_of_ble_eq_true rfl) (Nat.le_of_ble_eq_true rfl) ?_
                                exact ⟨rfl, rfl⟩)))
                 · first
                   | (exfalso; first | exact absurd c_65 (by decide) | first | contradiction | omega)
                   | (refine ri_iconstN h 2 d_Md_faultOf_68 rfl ?_
                      refine ri_goto h 92 d_Md_faultOf_69 (by decide) ?_
                      refine ri_ireturn h d_Md_faultOf_92 (Nat.le_of_ble_eq_true rfl) (Nat.le_of_ble_eq_true rfl) ?_
                      exact ⟨rfl, rfl⟩))
            · first
              | (exfalso; first | exact absurd c_50 (by decide) | first | contradiction | omega)
              | (refine ri_iconstN h 1 d_Md_faultOf_53 rfl ?_
                 refine ri_goto h 92 d_Md_faultOf_54 (by decide) ?_
                 refine ri_ireturn h d_Md_faultOf_92 (Nat.le_of_ble_eq_true rfl) (Nat.le_of_ble_eq_true rfl) ?_
                 exact ⟨rfl, rfl⟩))
       · first
         | (exfalso; first | exact absurd c_9 (by decide) | first | contradiction | omega)
         | (refine ri_aload_n h d_Md_faultOf_12 rfl ?_
            refine ri_get h d_Md_faultOf_13 fl_Md_26 (by first | assumption | exact hS.mo | exact gup_s) (by rfl) ?_
            refine ri_iload_n h d_Md_faultOf_16 rfl ?_
            refine ri_zaldE h _ d_Md_faultOf_17 (by first | assumption | exact hS.a8) (by first | rfl | assumption) (by first | assumption | omega) (by first | decide | omega) (by first | assumption | exact hm.i8 (by first | assumption | omega) | rfl) ?_
            refine ri_if_ne h 45 d_Md_faultOf_18 (by decide) (fun c_18 => ?_) (fun c_18 => ?_)
            · first
              | (exfalso; first | exact absurd c_18 (by decide) | first | contradiction | omega)
              | (refine ri_iconstN h 0 d_Md_faultOf_45 rfl ?_
                 refine ri_istore h d_Md_faultOf_46 (Nat.le_of_ble_eq_true rfl) ?_
                 refine ri_iload h d_Md_faultOf_48 rfl ?_
                 first | refine ri_ifB_ne h 57 d_Md_faultOf_50 (by decide) (fun c_50 => ?_) (fun c_50 => ?_) | refine ri_ifN_ne h 57 d_Md_faultOf_50 (by decide) (by omega) (fun c_50 => ?_) (fun c_50 => ?_) | refine ri_if_ne h 57 d_Md_faultOf_50 (by decide) (fun c_50 => ?_) (fun c_50 => ?_)
                 · first
                   | (exfalso; first | exact absurd c_50 (by decide) | first | contradiction | omega)
                   | (refine ri_aload_n h d_Md_faultOf_57 rfl ?_
                      refine ri_get h d_Md_faultOf_58 fl_Md_23 (by first | assumption | exact hS.mo | exact gup_s) (by rfl) ?_
                      refine ri_iload_n h d_Md_faultOf_61 rfl ?_
                      refine ri_ialdE h _ d_Md_faultOf_62 (by first | assumption | exact hS.a7) (by first | rfl | assumption) (by first | assumption | omega) (by first | decide | omega) (by first | assumption | exact hm.i7 (by first | assumption | omega) | rfl) ?_
                      refine ri_bipushN h 24 d_Md_faultOf_63 rfl ?_
                      first | refine ri_icmpN_ne h 72 d_Md_faultOf_65 (by decide) (by omega) (by omega) (fun c_65 => ?_) (fun c_65 => ?_) | refine ri_icmp_ne h 72 d_Md_faultOf_65 (by decide) (fun c_65 => ?_) (fun c_65 => ?_)
                      · first
                        | (exfalso; first | exact absurd c_65 (by decide) | first | contradiction | omega)
                        | (refine ri_lload_n h d_Md_faultOf_72 rfl ?_
                           refine ri_cSv_1 h d_Md_faultOf_73 cs_Md_136 (k_far h0) (Nat.le_of_ble_eq_true rfl) (Nat.le_of_ble_eq_true rfl) (Nat.le_of_ble_eq_true rfl) (Nat.le_of_ble_eq_true rfl) (Nat.le_of_ble_eq_true rfl) ?_
                           first | refine ri_ifB_ne h 87 d_Md_faultOf_76 (by decide) (fun c_76 => ?_) (fun c_76 => ?_) | refine ri_ifN_ne h 87 d_Md_faultOf_76 (by decide) (by omega) (fun c_76 => ?_) (fun c_76 => ?_) | refine ri_if_ne h 87 d_Md_faultOf_76 (by decide) (fun c_76 => ?_) (fun c_76 => ?_)
                           · first
                             | (exfalso; first | exact absurd c_76 (by decide) | first | contradiction | omega)
                             | (refine ri_iconstN h 3 d_Md_faultOf_87 rfl ?_
                                refine ri_goto h 92 d_Md_faultOf_88 (by decide) ?_
                                refine ri_ireturn h d_Md_faultOf_92 (Nat.le_of_ble_eq_true rfl) (Nat.le_of_ble_eq_true rfl) ?_
                                exact ⟨rfl, rfl⟩)
                           · first
                             | (exfalso; first | exact absurd c_76 (by decide) | first | contradiction | omega)
                             | (refine ri_lload h d_Md_faultOf_79 rfl ?_
                                refine ri_cSv_1 h d_Md_faultOf_81 cs_Md_136 (k_far h0) (Nat.le_of_ble_eq_true rfl) (Nat.le_of_ble_eq_true rfl) (Nat.le_of_ble_eq_true rfl) (Nat.le_of_ble_eq_true rfl) (Nat.le_of_ble_eq_true rfl) ?_
                                first | refine ri_ifB_eq h 91 d_Md_faultOf_84 (by decide) (fun c_84 => ?_) (fun c_84 => ?_) | refine ri_ifN_eq h 91 d_Md_faultOf_84 (by decide) (by omega) (fun c_84 => ?_) (fun c_84 => ?_) | refine ri_if_eq h 91 d_Md_faultOf_84 (by decide) (fun c_84 => ?_) (fun c_84 => ?_)
                                · first
                                  | (exfalso; first | exact absurd c_84 (by decide) | first | contradiction | omega)
                                  | (exact absurd ⟨Classical.byContradiction c_76, Classical.byContradiction c_84⟩ hn)
                                · first
                                  | (exfalso; first | exact absurd c_84 (by decide) | first | contradiction | omega)
                                  | (refine ri_iconstN h 3 d_Md_faultOf_87 rfl ?_
                                     refine ri_goto h 92 d_Md_faultOf_88 (by decide) ?_
                                     refine ri_ireturn h d_Md_faultOf_92 (Nat.le_of_ble_eq_true rfl) (Nat.le_of_ble_eq_true rfl) ?_
                                     exact ⟨rfl, rfl⟩)))
                      · first
                        | (exfalso; first | exact absurd c_65 (by decide) | first | contradiction | omega)
                        | (refine ri_iconstN h 2 d_Md_faultOf_68 rfl ?_
                           refine ri_goto h 92 d_Md_faultOf_69 (by decide) ?_
                           refine ri_ireturn h d_Md_faultOf_92 (Nat.le_of_ble_eq_true rfl) (Nat.le_of_ble_eq_true rfl) ?_
                           exact ⟨rfl, rfl⟩))
                 · first
                   | (exfalso; first | exact absurd c_50 (by decide) | first | contradiction | omega)
                   | (refine ri_iconstN h 1 d_Md_faultOf_53 rfl ?_
                      refine ri_goto h 92 d_Md_faultOf_54 (by decide) ?_
                      refine ri_ireturn h d_Md_faultOf_92 (Nat.le_of_ble_eq_true rfl) (Nat.le_of_ble_eq_true rfl) ?_
                      exact ⟨rfl, rfl⟩))
            · first
              | (exfalso; first | exact absurd c_18 (by decide) | first | contradiction | omega)
              | (refine ri_aload_n h d_Md_faultOf_21 rfl ?_
                 refine ri_get h d_Md_faultOf_22 fl_Md_16 (by first | assumption | exact hS.mo | exact gup_s) (by rfl) ?_
                 refine ri_iload_n h d_Md_faultOf_25 rfl ?_
                 refine ri_laldE h _ d_Md_faultOf_26 (by first | assumption | exact hS.a5) (by first | rfl | assumption) (by first | assumption | omega) (by first | decide | omega) (by first | assumption | exact hm.i5 (by first | assumption | omega) | rfl) ?_
                 refine ri_lconst h 0 d_Md_faultOf_27 rfl ?_
                 refine ri_lcmp_le h 36 d_Md_faultOf_28 d_Md_faultOf_29 (by decide) (fun c_28 => ?_) (fun c_28 => ?_)
                 · first
                   | (exfalso; first | exact absurd c_28 (by decide) | first | contradiction | omega)
                   | (refine ri_iconstN h 0 d_Md_faultOf_36 rfl ?_
                      refine ri_iload_n h d_Md_faultOf_37 rfl ?_
                      first | refine ri_icmpN_ne h 45 d_Md_faultOf_38 (by decide) (by omega) (by omega) (fun c_38 => ?_) (fun c_38 => ?_) | refine ri_icmp_ne h 45 d_Md_faultOf_38 (by decide) (fun c_38 => ?_) (fun c_38 => ?_)
                      · first
                        | (exfalso; first | exact absurd c_38 (by decide) | first | contradiction | omega)
                        | (refine ri_iconstN h 0 d_Md_faultOf_45 rfl ?_
                           refine ri_istore h d_Md_faultOf_46 (Nat.le_of_ble_eq_true rfl) ?_
                           refine ri_iload h d_Md_faultOf_48 rfl ?_
                           first | refine ri_ifB_ne h 57 d_Md_faultOf_50 (by decide) (fun c_50 => ?_) (fun c_50 => ?_) | refine ri_ifN_ne h 57 d_Md_faultOf_50 (by decide) (by omega) (fun c_50 => ?_) (fun c_50 => ?_) | refine ri_if_ne h 57 d_Md_faultOf_50 (by decide) (fun c_50 => ?_) (fun c_50 => ?_)
                           · first
                             | (exfalso; first | exact absurd c_50 (by decide) | first | contradiction | omega)
                             | (refine ri_aload_n h d_Md_faultOf_57 rfl ?_
                                refine ri_get h d_Md_faultOf_58 fl_Md_23 (by first | assumption | exact hS.mo | exact gup_s) (by rfl) ?_
                                refine ri_iload_n h d_Md_faultOf_61 rfl ?_
                                refine ri_ialdE h _ d_Md_faultOf_62 (by first | assumption | exact hS.a7) (by first | rfl | assumption) (by first | assumption | omega) (by first | decide | omega) (by first | assumption | exact hm.i7 (by first | assumption | omega) | rfl) ?_
                                refine ri_bipushN h 24 d_Md_faultOf_63 rfl ?_
                                first | refine ri_icmpN_ne h 72 d_Md_faultOf_65 (by decide) (by omega) (by omega) (fun c_65 => ?_) (fun c_65 => ?_) | refine ri_icmp_ne h 72 d_Md_faultOf_65 (by decide) (fun c_65 => ?_) (fun c_65 => ?_)
                                · first
                                  | (exfalso; first | exact absurd c_65 (by decide) | first | contradiction | omega)
                                  | (refine ri_lload_n h d_Md_faultOf_72 rfl ?_
                                     refine ri_cSv_1 h d_Md_faultOf_73 cs_Md_136 (k_far h0) (Nat.le_of_ble_eq_true rfl) (Nat.le_of_ble_eq_true rfl) (Nat.le_of_ble_eq_true rfl) (Nat.le_of_ble_eq_true rfl) (Nat.le_of_ble_eq_true rfl) ?_
                                     first | refine ri_ifB_ne h 87 d_Md_faultOf_76 (by decide) (fun c_76 => ?_) (fun c_76 => ?_) | refine ri_ifN_ne h 87 d_Md_faultOf_76 (by decide) (by omega) (fun c_76 => ?_) (fun c_76 => ?_) | refine ri_if_ne h 87 d_Md_faultOf_76 (by decide) (fun c_76 => ?_) (fun c_76 => ?_)
                                     · first
                                       | (exfalso; first | exact absurd c_76 (by decide) | first | contradiction | omega)
                                       | (refine ri_iconstN h 3 d_Md_faultOf_87 rfl ?_
                                          refine ri_goto h 92 d_Md_faultOf_88 (by decide) ?_
                                          refine ri_ireturn h d_Md_faultOf_92 (Nat.le_of_ble_eq_true rfl) (Nat.le_of_ble_eq_true rfl) ?_
                                          exact ⟨rfl, rfl⟩)
                                     · first
                                       | (exfalso; first | exact absurd c_76 (by decide) | first | contradiction | omega)
                                       | (refine ri_lload h d_Md_faultOf_79 rfl ?_
                                          refine ri_cSv_1 h d_Md_faultOf_81 cs_Md_136 (k_far h0) (Nat.le_of_ble_eq_true rfl) (Nat.le_of_ble_eq_true rfl) (Nat.le_of_ble_eq_true rfl) (Nat.le_of_ble_eq_true rfl) (Nat.le_of_ble_eq_true rfl) ?_
                                          first | refine ri_ifB_eq h 91 d_Md_faultOf_84 (by decide) (fun c_84 => ?_) (fun c_84 => ?_) | refine ri_ifN_eq h 91 d_Md_faultOf_84 (by decide) (by omega) (fun c_84 => ?_) (fun c_84 => ?_) | refine ri_if_eq h 91 d_Md_faultOf_84 (by decide) (fun c_84 => ?_) (fun c_84 => ?_)
                                          · first
                                            | (exfalso; first | exact absurd c_84 (by decide) | first | contradiction | omega)
                                            | (exact absurd ⟨Classical.byContradiction c_76, Classical.byContradiction c_84⟩ hn)
                                          · first
                                            | (exfalso; first | exact absurd c_84 (by decide) | first | contradiction | omega)
                                            | (refine ri_iconstN h 3 d_Md_faultOf_87 rfl ?_
                                               refine ri_goto h 92 d_Md_faultOf_88 (by decide) ?_
                                               refine ri_ireturn h d_Md_faultOf_92 (Nat.le_of_ble_eq_true rfl) (Nat.le_of_ble_eq_true rfl) ?_
                                               exact ⟨rfl, rfl⟩)))
                                · first
                                  | (exfalso; first | exact absurd c_65 (by decide) | first | contradiction | omega)
                                  | (refine ri_iconstN h 2 d_Md_faultOf_68 rfl ?_
                                     refine ri_goto h 92 d_Md_faultOf_69 (by decide) ?_
                                     refine ri_ireturn h d_Md_faultOf_92 (Nat.le_of_ble_eq_true rfl) (Nat.le_of_ble_eq_true rfl) ?_
                                     exact ⟨rfl, rfl⟩))
                           · first
                             | (exfalso; first | exact absurd c_50 (by decide) | first | contradiction | omega)
                             | (refine ri_iconstN h 1 d_Md_faultOf_53 rfl ?_
                                refine ri_goto h 92 d_Md_faultOf_54 (by decide) ?_
                                refine ri_ireturn h d_Md_faultOf_92 (Nat.le_of_ble_eq_true rfl) (Nat.le_of_ble_eq_true rfl) ?_
                                exact ⟨rfl, rfl⟩))
                      · first
                        | (exfalso; first | exact absurd c_38 (by decide) | first | contradiction | omega)
                        | (refine ri_iconstN h 1 d_Md_faultOf_41 rfl ?_
                           refine ri_goto h 46 d_Md_faultOf_42 (by decide) ?_
                           refine ri_istore h d_Md_faultOf_46 (Nat.le_of_ble_eq_true rfl) ?_
                           refine ri_iload h d_Md_faultOf_48 rfl ?_
                           first | refine ri_ifB_ne h 57 d_Md_faultOf_50 (by decide) (fun c_50 => ?_) (fun c_50 => ?_) | refine ri_ifN_ne h 57 d_Md_faultOf_50 (by decide) (by omega) (fun c_50 => ?_) (fun c_50 => ?_) | refine ri_if_ne h 57 d_Md_faultOf_50 (by decide) (fun c_50 => ?_) (fun c_50 => ?_)
                           · first
                             | (exfalso; first | exact absurd c_50 (by decide) | first | contradiction | omega)
                             | (refine ri_aload_n h d_Md_faultOf_57 rfl ?_
                                refine ri_get h d_Md_faultOf_58 fl_Md_23 (by first | assumption | exact hS.mo | exact gup_s) (by rfl) ?_
                                refine ri_iload_n h d_Md_faultOf_61 rfl ?_
                                refine ri_ialdE h _ d_Md_faultOf_62 (by first | assumption | exact hS.a7) (by first | rfl | assumption) (by first | assumption | omega) (by first | decide | omega) (by first | assumption | exact hm.i7 (by first | assumption | omega) | rfl) ?_
                                refine ri_bipushN h 24 d_Md_faultOf_63 rfl ?_
                                first | refine ri_icmpN_ne h 72 d_Md_faultOf_65 (by decide) (by omega) (by omega) (fun c_65 => ?_) (fun c_65 => ?_) | refine ri_icmp_ne h 72 d_Md_faultOf_65 (by decide) (fun c_65 => ?_) (fun c_65 => ?_)
                                · first
                                  | (exfalso; first | exact absurd c_65 (by decide) | first | contradiction | omega)
                                  | (refine ri_lload_n h d_Md_faultOf_72 rfl ?_
                                     refine ri_cSv_1 h d_Md_faultOf_73 cs_Md_136 (k_far h0) (Nat.le_of_ble_eq_true rfl) (Nat.le_of_ble_eq_true rfl) (Nat.le_of_ble_eq_true rfl) (Nat.le_of_ble_eq_true rfl) (Nat.le_of_ble_eq_true rfl) ?_
                                     first | refine ri_ifB_ne h 87 d_Md_faultOf_76 (by decide) (fun c_76 => ?_) (fun c_76 => ?_) | refine ri_ifN_ne h 87 d_Md_faultOf_76 (by decide) (by omega) (fun c_76 => ?_) (fun c_76 => ?_) | refine ri_if_ne h 87 d_Md_faultOf_76 (by decide) (fun c_76 => ?_) (fun c_76 => ?_)
                                     · first
                                       | (exfalso; first | exact absurd c_76 (by decide) | first | contradiction | omega)
                                       | (refine ri_iconstN h 3 d_Md_faultOf_87 rfl ?_
                                          refine ri_goto h 92 d_Md_faultOf_88 (by decide) ?_
                                          refine ri_ireturn h d_Md_faultOf_92 (Nat.le_of_ble_eq_true rfl) (Nat.le_of_ble_eq_true rfl) ?_
                                          exact ⟨rfl, rfl⟩)
                                     · first
                                       | (exfalso; first | exact absurd c_76 (by decide) | first | contradiction | omega)
                                       | (refine ri_lload h d_Md_faultOf_79 rfl ?_
                                          refine ri_cSv_1 h d_Md_faultOf_81 cs_Md_136 (k_far h0) (Nat.le_of_ble_eq_true rfl) (Nat.le_of_ble_eq_true rfl) (Nat.le_of_ble_eq_true rfl) (Nat.le_of_ble_eq_true rfl) (Nat.le_of_ble_eq_true rfl) ?_
                                          first | refine ri_ifB_eq h 91 d_Md_faultOf_84 (by decide) (fun c_84 => ?_) (fun c_84 => ?_) | refine ri_ifN_eq h 91 d_Md_faultOf_84 (by decide) (by omega) (fun c_84 => ?_) (fun c_84 => ?_) | refine ri_if_eq h 91 d_Md_faultOf_84 (by decide) (fun c_84 => ?_) (fun c_84 => ?_)
                                          · first
                                            | (exfalso; first | exact absurd c_84 (by decide) | first | contradiction | omega)
                                            | (exact absurd ⟨Classical.byContradiction c_76, Classical.byContradiction c_84⟩ hn)
                                          · first
                                            | (exfalso; first | exact absurd c_84 (by decide) | first | contradiction | omega)
                                            | (refine ri_iconstN h 3 d_Md_faultOf_87 rfl ?_
                                               refine ri_goto h 92 d_Md_faultOf_88 (by decide) ?_
                                               refine ri_ireturn h d_Md_faultOf_92 (Nat.le_of_ble_eq_true rfl) (Nat.le_of_ble_eq_true rfl) ?_
                                               exact ⟨rfl, rfl⟩)))
                                · first
                                  | (exfalso; first | exact absurd c_65 (by decide) | first | contradiction | omega)
                                  | (refine ri_iconstN h 2 d_Md_faultOf_68 rfl ?_
                                     refine ri_goto h 92 d_Md_faultOf_69 (by decide) ?_
                                     refine ri_ireturn h d_Md_faultOf_92 (Nat.le_of_ble_eq_true rfl) (Nat.le_of_ble_eq_true rfl) ?_
                                     exact ⟨rfl, rfl⟩))
                           · first
                             | (exfalso; first | exact absurd c_50 (by decide) | first | contradiction | omega)
                             | (refine ri_iconstN h 1 d_Md_faultOf_53 rfl ?_
                                refine ri_goto h 92 d_Md_faultOf_54 (by decide) ?_
                                refine ri_ireturn h d_Md_faultOf_92 (Nat.le_of_ble_eq_true rfl) (Nat.le_of_ble_eq_true rfl) ?_
                                exact ⟨rfl, rfl⟩)))
                 · first
                   | (exfalso; first | exact absurd c_28 (by decide) | first | contradiction | omega)
                   | (refine ri_iconstN h 1 d_Md_faultOf_32 rfl ?_
                      refine ri_goto h 37 d_Md_faultOf_33 (by decide) ?_
                      refine ri_iload_n h d_Md_faultOf_37 rfl ?_
                      first | refine ri_icmpN_ne h 45 d_Md_faultOf_38 (by decide) (by omega) (by omega) (fun c_38 => ?_) (fun c_38 => ?_) | refine ri_icmp_ne h 45 d_Md_faultOf_38 (by decide) (fun c_38 => ?_) (fun c_38 => ?_)
                      · first
                        | (exfalso; first | exact absurd c_38 (by decide) | first | contradiction | omega)
                        | (refine ri_iconstN h 0 d_Md_faultOf_45 rfl ?_
                           refine ri_istore h d_Md_faultOf_46 (Nat.le_of_ble_eq_true rfl) ?_
                           refine ri_iload h d_Md_faultOf_48 rfl ?_
                           first | refine ri_ifB_ne h 57 d_Md_faultOf_50 (by decide) (fun c_50 => ?_) (fun c_50 => ?_) | refine ri_ifN_ne h 57 d_Md_faultOf_50 (by decide) (by omega) (fun c_50 => ?_) (fun c_50 => ?_) | refine ri_if_ne h 57 d_Md_faultOf_50 (by decide) (fun c_50 => ?_) (fun c_50 => ?_)
                           · first
                             | (exfalso; first | exact absurd c_50 (by decide) | first | contradiction | omega)
                             | (refine ri_aload_n h d_Md_faultOf_57 rfl ?_
                                refine ri_get h d_Md_faultOf_58 fl_Md_23 (by first | assumption | exact hS.mo | exact gup_s) (by rfl) ?_
                                refine ri_iload_n h d_Md_faultOf_61 rfl ?_
                                refine ri_ialdE h _ d_Md_faultOf_62 (by first | assumption | exact hS.a7) (by first | rfl | assumption) (by first | assumption | omega) (by first | decide | omega) (by first | assumption | exact hm.i7 (by first | assumption | omega) | rfl) ?_
                                refine ri_bipushN h 24 d_Md_faultOf_63 rfl ?_
                                first | refine ri_icmpN_ne h 72 d_Md_faultOf_65 (by decide) (by omega) (by omega) (fun c_65 => ?_) (fun c_65 => ?_) | refine ri_icmp_ne h 72 d_Md_faultOf_65 (by decide) (fun c_65 => ?_) (fun c_65 => ?_)
                                · first
                                  | (exfalso; first | exact absurd c_65 (by decide) | first | contradiction | omega)
                                  | (refine ri_lload_n h d_Md_faultOf_72 rfl ?_
                                     refine ri_cSv_1 h d_Md_faultOf_73 cs_Md_136 (k_far h0) (Nat.le_of_ble_eq_true rfl) (Nat.le_of_ble_eq_true rfl) (Nat.le_of_ble_eq_true rfl) (Nat.le_of_ble_eq_true rfl) (Nat.le_of_ble_eq_true rfl) ?_
                                     first | refine ri_ifB_ne h 87 d_Md_faultOf_76 (by decide) (fun c_76 => ?_) (fun c_76 => ?_) | refine ri_ifN_ne h 87 d_Md_faultOf_76 (by decide) (by omega) (fun c_76 => ?_) (fun c_76 => ?_) | refine ri_if_ne h 87 d_Md_faultOf_76 (by decide) (fun c_76 => ?_) (fun c_76 => ?_)
                                     · first
                                       | (exfalso; first | exact absurd c_76 (by decide) | first | contradiction | omega)
                                       | (refine ri_iconstN h 3 d_Md_faultOf_87 rfl ?_
                                          refine ri_goto h 92 d_Md_faultOf_88 (by decide) ?_
                                          refine ri_ireturn h d_Md_faultOf_92 (Nat.le_of_ble_eq_true rfl) (Nat.le_of_ble_eq_true rfl) ?_
                                          exact ⟨rfl, rfl⟩)
                                     · first
                                       | (exfalso; first | exact absurd c_76 (by decide) | first | contradiction | omega)
                                       | (refine ri_lload h d_Md_faultOf_79 rfl ?_
                                          refine ri_cSv_1 h d_Md_faultOf_81 cs_Md_136 (k_far h0) (Nat.le_of_ble_eq_true rfl) (Nat.le_of_ble_eq_true rfl) (Nat.le_of_ble_eq_true rfl) (Nat.le_of_ble_eq_true rfl) (Nat.le_of_ble_eq_true rfl) ?_
                                          first | refine ri_ifB_eq h 91 d_Md_faultOf_84 (by decide) (fun c_84 => ?_) (fun c_84 => ?_) | refine ri_ifN_eq h 91 d_Md_faultOf_84 (by decide) (by omega) (fun c_84 => ?_) (fun c_84 => ?_) | refine ri_if_eq h 91 d_Md_faultOf_84 (by decide) (fun c_84 => ?_) (fun c_84 => ?_)
                                          · first
                                            | (exfalso; first | exact absurd c_84 (by decide) | first | contradiction | omega)
                                            | (exact absurd ⟨Classical.byContradiction c_76, Classical.byContradiction c_84⟩ hn)
                                          · first
                                            | (exfalso; first | exact absurd c_84 (by decide) | first | contradiction | omega)
                                            | (refine ri_iconstN h 3 d_Md_faultOf_87 rfl ?_
                                               refine ri_goto h 92 d_Md_faultOf_88 (by decide) ?_
                                               refine ri_ireturn h d_Md_faultOf_92 (Nat.le_of_ble_eq_true rfl) (Nat.le_of_ble_eq_true rfl) ?_
                                               exact ⟨rfl, rfl⟩)))
                                · first
                                  | (exfalso; first | exact absurd c_65 (by decide) | first | contradiction | omega)
                                  | (refine ri_iconstN h 2 d_Md_faultOf_68 rfl ?_
                                     refine ri_goto h 92 d_Md_faultOf_69 (by decide) ?_
                                     refine ri_ireturn h d_Md_faultOf_92 (Nat.le_of_ble_eq_true rfl) (Nat.le_of_ble_eq_true rfl) ?_
                                     exact ⟨rfl, rfl⟩))
                           · first
                             | (exfalso; first | exact absurd c_50 (by decide) | first | contradiction | omega)
                             | (refine ri_iconstN h 1 d_Md_faultOf_53 rfl ?_
                                refine ri_goto h 92 d_Md_faultOf_54 (by decide) ?_
                                refine ri_ireturn h d_Md_faultOf_92 (Nat.le_of_ble_eq_true rfl) (Nat.le_of_ble_eq_true rfl) ?_
                                exact ⟨rfl, rfl⟩))
                      · first
                        | (exfalso; first | exact absurd c_38 (by decide) | first | contradiction | omega)
                        | (refine ri_iconstN h 1 d_Md_faultOf_41 rfl ?_
                           refine ri_goto h 46 d_Md_faultOf_42 (by decide) ?_
                           refine ri_istore h d_Md_faultOf_46 (Nat.le_of_ble_eq_true rfl) ?_
                           refine ri_iload h d_Md_faultOf_48 rfl ?_
                           first | refine ri_ifB_ne h 57 d_Md_faultOf_50 (by decide) (fun c_50 => ?_) (fun c_50 => ?_) | refine ri_ifN_ne h 57 d_Md_faultOf_50 (by decide) (by omega) (fun c_50 => ?_) (fun c_50 => ?_) | refine ri_if_ne h 57 d_Md_faultOf_50 (by decide) (fun c_50 => ?_) (fun c_50 => ?_)
                           · first
                             | (exfalso; first | exact absurd c_50 (by decide) | first | contradiction | omega)
                             | (refine ri_aload_n h d_Md_faultOf_57 rfl ?_
                                refine ri_get h d_Md_faultOf_58 fl_Md_23 (by first | assumption | exact hS.mo | exact gup_s) (by rfl) ?_
                                refine ri_iload_n h d_Md_faultOf_61 rfl ?_
                                refine ri_ialdE h _ d_Md_faultOf_62 (by first | assumption | exact hS.a7) (by first | rfl | assumption) (by first | assumption | omega) (by first | decide | omega) (by first | assumption | exact hm.i7 (by first | assumption | omega) | rfl) ?_
                                refine ri_bipushN h 24 d_Md_faultOf_63 rfl ?_
                                first | refine ri_icmpN_ne h 72 d_Md_faultOf_65 (by decide) (by omega) (by omega) (fun c_65 => ?_) (fun c_65 => ?_) | refine ri_icmp_ne h 72 d_Md_faultOf_65 (by decide) (fun c_65 => ?_) (fun c_65 => ?_)
                                · first
                                  | (exfalso; first | exact absurd c_65 (by decide) | first | contradiction | omega)
                                  | (refine ri_lload_n h d_Md_faultOf_72 rfl ?_
                                     refine ri_cSv_1 h d_Md_faultOf_73 cs_Md_136 (k_far h0) (Nat.le_of_ble_eq_true rfl) (Nat.le_of_ble_eq_true rfl) (Nat.le_of_ble_eq_true rfl) (Nat.le_of_ble_eq_true rfl) (Nat.le_of_ble_eq_true rfl) ?_
                                     first | refine ri_ifB_ne h 87 d_Md_faultOf_76 (by decide) (fun c_76 => ?_) (fun c_76 => ?_) | refine ri_ifN_ne h 87 d_Md_faultOf_76 (by decide) (by omega) (fun c_76 => ?_) (fun c_76 => ?_) | refine ri_if_ne h 87 d_Md_faultOf_76 (by decide) (fun c_76 => ?_) (fun c_76 => ?_)
                                     · first
                                       | (exfalso; first | exact absurd c_76 (by decide) | first | contradiction | omega)
                                       | (refine ri_iconstN h 3 d_Md_faultOf_87 rfl ?_
                                          refine ri_goto h 92 d_Md_faultOf_88 (by decide) ?_
                                          refine ri_ireturn h d_Md_faultOf_92 (Nat.le_of_ble_eq_true rfl) (Nat.le_of_ble_eq_true rfl) ?_
                                          exact ⟨rfl, rfl⟩)
                                     · first
                                       | (exfalso; first | exact absurd c_76 (by decide) | first | contradiction | omega)
                                       | (refine ri_lload h d_Md_faultOf_79 rfl ?_
                                          refine ri_cSv_1 h d_Md_faultOf_81 cs_Md_136 (k_far h0) (Nat.le_of_ble_eq_true rfl) (Nat.le_of_ble_eq_true rfl) (Nat.le_of_ble_eq_true rfl) (Nat.le_of_ble_eq_true rfl) (Nat.le_of_ble_eq_true rfl) ?_
                                          first | refine ri_ifB_eq h 91 d_Md_faultOf_84 (by decide) (fun c_84 => ?_) (fun c_84 => ?_) | refine ri_ifN_eq h 91 d_Md_faultOf_84 (by decide) (by omega) (fun c_84 => ?_) (fun c_84 => ?_) | refine ri_if_eq h 91 d_Md_faultOf_84 (by decide) (fun c_84 => ?_) (fun c_84 => ?_)
                                          · first
                                            | (exfalso; first | exact absurd c_84 (by decide) | first | contradiction | omega)
                                            | (exact absurd ⟨Classical.byContradiction c_76, Classical.byContradiction c_84⟩ hn)
                                          · first
                                            | (exfalso; first | exact absurd c_84 (by decide) | first | contradiction | omega)
                                            | (refine ri_iconstN h 3 d_Md_faultOf_87 rfl ?_
                                               refine ri_goto h 92 d_Md_faultOf_88 (by decide) ?_
                                               refine ri_ireturn h d_Md_faultOf_92 (Nat.le_of_ble_eq_true rfl) (Nat.le_of_ble_eq_true rfl) ?_
                                               exact ⟨rfl, rfl⟩)))
                                · first
                                  | (exfalso; first | exact absurd c_65 (by decide) | first | contradiction | omega)
                                  | (refine ri_iconstN h 2 d_Md_faultOf_68 rfl ?_
                                     refine ri_goto h 92 d_Md_faultOf_69 (by decide) ?_
                                     refine ri_ireturn h d_Md_faultOf_92 (Nat.le_of_ble_eq_true rfl) (Nat.le_of_ble_eq_true rfl) ?_
                                     exact ⟨rfl, rfl⟩))
                           · first
                             | (exfalso; first | exact absurd c_50 (by decide) | first | contradiction | omega)
                             | (refine ri_iconstN h 1 d_Md_faultOf_53 rfl ?_
                                refine ri_goto h 92 d_Md_faultOf_54 (by decide) ?_
                                refine ri_ireturn h d_Md_faultOf_92 (Nat.le_of_ble_eq_true rfl) (Nat.le_of_ble_eq_true rfl) ?_
                                exact ⟨rfl, rfl⟩))))))
theorem k_fault0_0 (h0 : g_0 l D s0) (hS : HS z ad Qc N M) (hm : MR Q N) (hW : WB Q) {s : Nat} (hs : s < Q.nS) (hd : (Q.sh s).drop = 0) (hp : spath (Q.sh s).w = 0) {x y : Int64} (hc : (Q.sh s).cnt < 24) (hx : nearB x) (hy : nearB y) : Ct l D s0 y_Md_faultOf (Cond.code y_Md_faultOf b_Md_faultOf 8 (some .int)) (rk 1 0 0) [.ref (ad 30 0), .int (nI s), .int (nI 0), .long x, .long y] M (fR (some (.int (nI 0))) M) := by
  have hb1 := hW.2.1
  have hns := hm.ns
  have hw : ¬ 0 < (Q.sh s).w := by
    by_cases q : 0 < (Q.sh s).w
    · exact absurd hp (by simp [spath, q])
    · exact q
  have hw := Int64.not_lt.mp hw
  refine Ct.of h0 (by decide +kernel) rfl fun X hX h => ?_
  obtain ⟨p_, l', e_, R_, s_, m_, ar_, be_, me_, c_⟩ := X
  obtain rfl : l' = l := hX
  refine ri_iload_n h d_Md_faultOf_0 rfl ?_
  refine ri_ifM_lt h 45 d_Md_faultOf_1 (by decide) (by omega) (fun c_1 => ?_) (fun c_1 => ?_)
  · exact c_1.elim
  · first
    | (exfalso; first | exact absurd c_1 (by decide) | first | contradiction | omega)
    | (refine ri_iload_n h d_Md_faultOf_4 rfl ?_
       refine ri_aload_n h d_Md_faultOf_5 rfl ?_
       refine ri_get h d_Md_faultOf_6 fl_Md_118 (by first | assumption | exact hS.mo | exact gup_s) (by rfl) ?_
       first | refine ri_icmpN_ge h 45 d_Md_faultOf_9 (by decide) (by omega) (by omega) (fun c_9 => ?_) (fun c_9 => ?_) | refine ri_icmp_ge h 45 d_Md_faultOf_9 (by decide) (fun c_9 => ?_) (fun c_9 => ?_)
       · first
         | (exfalso; first | exact absurd c_9 (by decide) | first | contradiction | omega)
         | (refine ri_iconstN h 0 d_Md_faultOf_45 rfl ?_
            refine ri_istore h d_Md_faultOf_46 (Nat.le_of_ble_eq_true rfl) ?_
            refine ri_iload h d_Md_faultOf_48 rfl ?_
            first | refine ri_ifB_ne h 57 d_Md_faultOf_50 (by decide) (fun c_50 => ?_) (fun c_50 => ?_) | refine ri_ifN_ne h 57 d_Md_faultOf_50 (by decide) (by omega) (fun c_50 => ?_) (fun c_50 => ?_) | refine ri_if_ne h 57 d_Md_faultOf_50 (by decide) (fun c_50 => ?_) (fun c_50 => ?_)
            · first
              | (exfalso; first | exact absurd c_50 (by decide) | first | contradiction | omega)
              | (refine ri_aload_n h d_Md_faultOf_57 rfl ?_
                 refine ri_get h d_Md_faultOf_58 fl_Md_23 (by first | assumption | exact hS.mo | exact gup_s) (by rfl) ?_
                 refine ri_iload_n h d_Md_faultOf_61 rfl ?_
                 refine ri_ialdE h _ d_Md_faultOf_62 (by first | assumption | exact hS.a7) (by first | rfl | assumption) (by first | assumption | omega) (by first | decide | omega) (by first | assumption | exact hm.i7 (by first | assumption | omega) | rfl) ?_
                 refine ri_bipushN h 24 d_Md_faultOf_63 rfl ?_
                 first | refine ri_icmpN_ne h 72 d_Md_faultOf_65 (by decide) (by omega) (by omega) (fun c_65 => ?_) (fun c_65 => ?_) | refine ri_icmp_ne h 72 d_Md_faultOf_65 (by decide) (fun c_65 => ?_) (fun c_65 => ?_)
                 · first
                   | (exfalso; first | exact absurd c_65 (by decide) | first | contradiction | omega)
                   | (refine ri_lload_n h d_Md_faultOf_72 rfl ?_
                      refine ri_cSv_1 h d_Md_faultOf_73 cs_Md_136 (k_far h0) (Nat.le_of_ble_eq_true rfl) (Nat.le_of_ble_eq_true rfl) (Nat.le_of_ble_eq_true rfl) (Nat.le_of_ble_eq_true rfl) (Nat.le_of_ble_eq_true rfl) ?_
                      first | refine ri_ifB_ne h 87 d_Md_faultOf_76 (by decide) (fun c_76 => ?_) (fun c_76 => ?_) | refine ri_ifN_ne h 87 d_Md_faultOf_76 (by decide) (by omega) (fun c_76 => ?_) (fun c_76 => ?_) | refine ri_if_ne h 87 d_Md_faultOf_76 (by decide) (fun c_76 => ?_) (fun c_76 => ?_)
                      · first
                        | (exfalso; first | exact absurd c_76 (by decide) | first | contradiction | omega)
                        | (refine ri_iconstN h 3 d_Md_faultOf_87 rfl ?_
                           refine ri_goto h 92 d_Md_faultOf_88 (by decide) ?_
                           refine ri_ireturn h d_Md_faultOf_92 (Nat.le_of_ble_eq_true rfl) (Nat.le_of_ble_eq_true rfl) ?_
                           exact ⟨rfl, rfl⟩)
                      · first
                        | (exfalso; first | exact absurd c_76 (by decide) | first | contradiction | omega)
                        | (refine ri_lload h d_Md_faultOf_79 rfl ?_
                           refine ri_cSv_1 h d_Md_faultOf_81 cs_Md_136 (k_far h0) (Nat.le_of_ble_eq_true rfl) (Nat.le_of_ble_eq_true rfl) (Nat.le_of_ble_eq_true rfl) (Nat.le_of_ble_eq_true rfl) (Nat.le_of_ble_eq_true rfl) ?_
                           first | refine ri_ifB_eq h 91 d_Md_faultOf_84 (by decide) (fun c_84 => ?_) (fun c_84 => ?_) | refine ri_ifN_eq h 91 d_Md_faultOf_84 (by decide) (by omega) (fun c_84 => ?_) (fun c_84 => ?_) | refine ri_if_eq h 91 d_Md_faultOf_84 (by decide) (fun c_84 => ?_) (fun c_84 => ?_)
                           · first
                             | (exfalso; first | exact absurd c_84 (by decide) | first | contradiction | omega)
                             | (refine ri_iconstN h 0 d_Md_faultOf_91 rfl ?_
                                refine ri_ireturn h d_Md_faultOf_92 (Nat.le_of_ble_eq_true rfl) (Nat.le_of_ble_eq_true rfl) ?_
                                exact ⟨rfl, rfl⟩)
                           · first
                             | (exfalso; first | exact absurd c_84 (by decide) | first | contradiction | omega)
                             | (refine ri_iconstN h 3 d_Md_faultOf_87 rfl ?_
                                refine ri_goto h 92 d_Md_faultOf_88 (by decide) ?_
                                refine ri_ireturn h d_Md_faultOf_92 (Nat.le_of_ble_eq_true rfl) (Nat.le_of_ble_eq_true rfl) ?_
                                exact ⟨rfl, rfl⟩)))
                 · first
                   | (exfalso; first | exact absurd c_65 (by decide) | first | contradiction | omega)
                   | (refine ri_iconstN h 2 d_Md_faultOf_68 rfl ?_
                      refine ri_goto h 92 d_Md_faultOf_69 (by decide) ?_
                      refine ri_ireturn h d_Md_faultOf_92 (Nat.le_of_ble_eq_true rfl) (Nat.le_of_ble_eq_true rfl) ?_
                      exact ⟨rfl, rfl⟩))
            · first
              | (exfalso; first | exact absurd c_50 (by decide) | first | contradiction | omega)
              | (refine ri_iconstN h 1 d_Md_faultOf_53 rfl ?_
                 refine ri_goto h 92 d_Md_faultOf_54 (by decide) ?_
                 refine ri_ireturn h d_Md_faultOf_92 (Nat.le_of_ble_eq_true rfl) (Nat.le_of_ble_eq_true rfl) ?_
                 exact ⟨rfl, rfl⟩))
       · first
         | (exfalso; first | exact absurd c_9 (by decide) | first | contradiction | omega)
         | (refine ri_aload_n h d_Md_faultOf_12 rfl ?_
            refine ri_get h d_Md_faultOf_13 fl_Md_26 (by first | assumption | exact hS.mo | exact gup_s) (by rfl) ?_
            refine ri_iload_n h d_Md_faultOf_16 rfl ?_
            refine ri_zaldE h _ d_Md_faultOf_17 (by first | assumption | exact hS.a8) (by first | rfl | assumption) (by first | assumption | omega) (by first | decide | omega) (by first | assumption | exact hm.i8 (by first | assumption | omega) | rfl) ?_
            refine ri_if_ne h 45 d_Md_faultOf_18 (by decide) (fun c_18 => ?_) (fun c_18 => ?_)
            · first
              | (exfalso; first | exact absurd c_18 (by decide) | first | contradiction | omega)
              | (refine ri_iconstN h 0 d_Md_faultOf_45 rfl ?_
                 refine ri_istore h d_Md_faultOf_46 (Nat.le_of_ble_eq_true rfl) ?_
                 refine ri_iload h d_Md_faultOf_48 rfl ?_
                 first | refine ri_ifB_ne h 57 d_Md_faultOf_50 (by decide) (fun c_50 => ?_) (fun c_50 => ?_) | refine ri_ifN_ne h 57 d_Md_faultOf_50 (by decide) (by omega) (fun c_50 => ?_) (fun c_50 => ?_) | refine ri_if_ne h 57 d_Md_faultOf_50 (by decide) (fun c_50 => ?_) (fun c_50 => ?_)
                 · first
                   | (exfalso; first | exact absurd c_50 (by decide) | first | contradiction | omega)
                   | (refine ri_aload_n h d_Md_faultOf_57 rfl ?_
                      refine ri_get h d_Md_faultOf_58 fl_Md_23 (by first | assumption | exact hS.mo | exact gup_s) (by rfl) ?_
                      refine ri_iload_n h d_Md_faultOf_61 rfl ?_
                      refine ri_ialdE h _ d_Md_faultOf_62 (by first | assumption | exact hS.a7) (by first | rfl | assumption) (by first | assumption | omega) (by first | decide | omega) (by first | assumption | exact hm.i7 (by first | assumption | omega) | rfl) ?_
                      refine ri_bipushN h 24 d_Md_faultOf_63 rfl ?_
                      first | refine ri_icmpN_ne h 72 d_Md_faultOf_65 (by decide) (by omega) (by omega) (fun c_65 => ?_) (fun c_65 => ?_) | refine ri_icmp_ne h 72 d_Md_faultOf_65 (by decide) (fun c_65 => ?_) (fun c_65 => ?_)
                      · first
                        | (exfalso; first | exact absurd c_65 (by decide) | first | contradiction | omega)
                        | (refine ri_lload_n h d_Md_faultOf_72 rfl ?_
                           refine ri_cSv_1 h d_Md_faultOf_73 cs_Md_136 (k_far h0) (Nat.le_of_ble_eq_true rfl) (Nat.le_of_ble_eq_true rfl) (Nat.le_of_ble_eq_true rfl) (Nat.le_of_ble_eq_true rfl) (Nat.le_of_ble_eq_true rfl) ?_
                           first | refine ri_ifB_ne h 87 d_Md_faultOf_76 (by decide) (fun c_76 => ?_) (fun c_76 => ?_) | refine ri_ifN_ne h 87 d_Md_faultOf_76 (by decide) (by omega) (fun c_76 => ?_) (fun c_76 => ?_) | refine ri_if_ne h 87 d_Md_faultOf_76 (by decide) (fun c_76 => ?_) (fun c_76 => ?_)
                           · first
                             | (exfalso; first | exact absurd c_76 (by decide) | first | contradiction | omega)
                             | (refine ri_iconstN h 3 d_Md_faultOf_87 rfl ?_
                                refine ri_goto h 92 d_Md_faultOf_88 (by decide) ?_
                                refine ri_ireturn h d_Md_faultOf_92 (Nat.le_of_ble_eq_true rfl) (Nat.le_of_ble_eq_true rfl) ?_
                                exact ⟨rfl, rfl⟩)
                           · first
                             | (exfalso; first | exact absurd c_76 (by decide) | first | contradiction | omega)
                             | (refine ri_lload h d_Md_faultOf_79 rfl ?_
                                refine ri_cSv_1 h d_Md_faultOf_81 cs_Md_136 (k_far h0) (Nat.le_of_ble_eq_true rfl) (Nat.le_of_ble_eq_true rfl) (Nat.le_of_ble_eq_true rfl) (Nat.le_of_ble_eq_true rfl) (Nat.le_of_ble_eq_true rfl) ?_
                                first | refine ri_ifB_eq h 91 d_Md_faultOf_84 (by decide) (fun c_84 => ?_) (fun c_84 => ?_) | refine ri_ifN_eq h 91 d_Md_faultOf_84 (by decide) (by omega) (fun c_84 => ?_) (fun c_84 => ?_) | refine ri_if_eq h 91 d_Md_faultOf_84 (by decide) (fun c_84 => ?_) (fun c_84 => ?_)
                                · first
                                  | (exfalso; first | exact absurd c_84 (by decide) | first | contradiction | omega)
                                  | (refine ri_iconstN h 0 d_Md_faultOf_91 rfl ?_
                                     refine ri_ireturn h d_Md_faultOf_92 (Nat.le_of_ble_eq_true rfl) (Nat.le_of_ble_eq_true rfl) ?_
                                     exact ⟨rfl, rfl⟩)
                                · first
                                  | (exfalso; first | exact absurd c_84 (by decide) | first | contradiction | omega)
                                  | (refine ri_iconstN h 3 d_Md_faultOf_87 rfl ?_
                                     refine ri_goto h 92 d_Md_faultOf_88 (by decide) ?_
                                     refine ri_ireturn h d_Md_faultOf_92 (Nat.le_of_ble_eq_true rfl) (Nat.le_of_ble_eq_true rfl) ?_
                                     exact ⟨rfl, rfl⟩)))
                      · first
                        | (exfalso; first | exact absurd c_65 (by decide) | first | contradiction | omega)
                        | (refine ri_iconstN h 2 d_Md_faultOf_68 rfl ?_
                           refine ri_goto h 92 d_Md_faultOf_69 (by decide) ?_
                           refine ri_ireturn h d_Md_faultOf_92 (Nat.le_of_ble_eq_true rfl) (Nat.le_of_ble_eq_true rfl) ?_
                           exact ⟨rfl, rfl⟩))
                 · first
                   | (exfalso; first | exact absurd c_50 (by decide) | first | contradiction | omega)
                   | (refine ri_iconstN h 1 d_Md_faultOf_53 rfl ?_
                      refine ri_goto h 92 d_Md_faultOf_54 (by decide) ?_
                      refine ri_ireturn h d_Md_faultOf_92 (Nat.le_of_ble_eq_true rfl) (Nat.le_of_ble_eq_true rfl) ?_
                      exact ⟨rfl, rfl⟩))
            · first
              | (exfalso; first | exact absurd c_18 (by decide) | first | contradiction | omega)
              | (refine ri_aload_n h d_Md_faultOf_21 rfl ?_
                 refine ri_get h d_Md_faultOf_22 fl_Md_16 (by first | assumption | exact hS.mo | exact gup_s) (by rfl) ?_
                 refine ri_iload_n h d_Md_faultOf_25 rfl ?_
                 refine ri_laldE h _ d_Md_faultOf_26 (by first | assumption | exact hS.a5) (by first | rfl | assumption) (by first | assumption | omega) (by first | decide | omega) (by first | assumption | exact hm.i5 (by first | assumption | omega) | rfl) ?_
                 refine ri_lconst h 0 d_Md_faultOf_27 rfl ?_
                 refine ri_lcmp_le h 36 d_Md_faultOf_28 d_Md_faultOf_29 (by decide) (fun c_28 => ?_) (fun c_28 => ?_)
                 · first
                   | (exfalso; first | exact absurd c_28 (by decide) | first | contradiction | omega)
                   | (refine ri_iconstN h 0 d_Md_faultOf_36 rfl ?_
                      refine ri_iload_n h d_Md_faultOf_37 rfl ?_
                      first | refine ri_icmpN_ne h 45 d_Md_faultOf_38 (by decide) (by omega) (by omega) (fun c_38 => ?_) (fun c_38 => ?_) | refine ri_icmp_ne h 45 d_Md_faultOf_38 (by decide) (fun c_38 => ?_) (fun c_38 => ?_)
                      · first
                        | (exfalso; first | exact absurd c_38 (by decide) | first | contradiction | omega)
                        | (refine ri_iconstN h 0 d_Md_faultOf_45 rfl ?_
                           refine ri_istore h d_Md_faultOf_46 (Nat.le_of_ble_eq_true rfl) ?_
                           refine ri_iload h d_Md_faultOf_48 rfl ?_
                           first | refine ri_ifB_ne h 57 d_Md_faultOf_50 (by decide) (fun c_50 => ?_) (fun c_50 => ?_) | refine ri_ifN_ne h 57 d_Md_faultOf_50 (by decide) (by omega) (fun c_50 => ?_) (fun c_50 => ?_) | refine ri_if_ne h 57 d_Md_faultOf_50 (by decide) (fun c_50 => ?_) (fun c_50 => ?_)
                           · first
                             | (exfalso; first | exact absurd c_50 (by decide) | first | contradiction | omega)
                             | (refine ri_aload_n h d_Md_faultOf_57 rfl ?_
                                refine ri_get h d_Md_faultOf_58 fl_Md_23 (by first | assumption | exact hS.mo | exact gup_s) (by rfl) ?_
                                refine ri_iload_n h d_Md_faultOf_61 rfl ?_
                                refine ri_ialdE h _ d_Md_faultOf_62 (by first | assumption | exact hS.a7) (by first | rfl | assumption) (by first | assumption | omega) (by first | decide | omega) (by first | assumption | exact hm.i7 (by first | assumption | omega) | rfl) ?_
                                refine ri_bipushN h 24 d_Md_faultOf_63 rfl ?_
                                first | refine ri_icmpN_ne h 72 d_Md_faultOf_65 (by decide) (by omega) (by omega) (fun c_65 => ?_) (fun c_65 => ?_) | refine ri_icmp_ne h 72 d_Md_faultOf_65 (by decide) (fun c_65 => ?_) (fun c_65 => ?_)
                                · first
                                  | (exfalso; first | exact absurd c_65 (by decide) | first | contradiction | omega)
                                  | (refine ri_lload_n h d_Md_faultOf_72 rfl ?_
                                     refine ri_cSv_1 h d_Md_faultOf_73 cs_Md_136 (k_far h0) (Nat.le_of_ble_eq_true rfl) (Nat.le_of_ble_eq_true rfl) (Nat.le_of_ble_eq_true rfl) (Nat.le_of_ble_eq_true rfl) (Nat.le_of_ble_eq_true rfl) ?_
                                     first | refine ri_ifB_ne h 87 d_Md_faultOf_76 (by decide) (fun c_76 => ?_) (fun c_76 => ?_) | refine ri_ifN_ne h 87 d_Md_faultOf_76 (by decide) (by omega) (fun c_76 => ?_) (fun c_76 => ?_) | refine ri_if_ne h 87 d_Md_faultOf_76 (by decide) (fun c_76 => ?_) (fun c_76 => ?_)
                                     · first
                                       | (exfalso; first | exact absurd c_76 (by decide) | first | contradiction | omega)
                                       | (refine ri_iconstN h 3 d_Md_faultOf_87 rfl ?_
                                          refine ri_goto h 92 d_Md_faultOf_88 (by decide) ?_
                                          refine ri_ireturn h d_Md_faultOf_92 (Nat.le_of_ble_eq_true rfl) (Nat.le_of_ble_eq_true rfl) ?_
                                          exact ⟨rfl, rfl⟩)
                                     · first
                                       | (exfalso; first | exact absurd c_76 (by decide) | first | contradiction | omega)
                                       | (refine ri_lload h d_Md_faultOf_79 rfl ?_
                                          refine ri_cSv_1 h d_Md_faultOf_81 cs_Md_136 (k_far h0) (Nat.le_of_ble_eq_true rfl) (Nat.le_of_ble_eq_true rfl) (Nat.le_of_ble_eq_true rfl) (Nat.le_of_ble_eq_true rfl) (Nat.le_of_ble_eq_true rfl) ?_
                                          first | refine ri_ifB_eq h 91 d_Md_faultOf_84 (by decide) (fun c_84 => ?_) (fun c_84 => ?_) | refine ri_ifN_eq h 91 d_Md_faultOf_84 (by decide) (by omega) (fun c_84 => ?_) (fun c_84 => ?_) | refine ri_if_eq h 91 d_Md_faultOf_84 (by decide) (fun c_84 => ?_) (fun c_84 => ?_)
                                          · first
                                            | (exfalso; first | exact absurd c_84 (by decide) | first | contradiction | omega)
                                            | (refine ri_iconstN h 0 d_Md_faultOf_91 rfl ?_
                                               refine ri_ireturn h d_Md_faultOf_92 (Nat.le_of_ble_eq_true rfl) (Nat.le_of_ble_eq_true rfl) ?_
                                               exact ⟨rfl, rfl⟩)
                                          · first
                                            | (exfalso; first | exact absurd c_84 (by decide) | first | contradiction | omega)
                                            | (refine ri_iconstN h 3 d_Md_faultOf_87 rfl ?_
                                               refine ri_goto h 92 d_Md_faultOf_88 (by decide) ?_
                                               refine ri_ireturn h d_Md_faultOf_92 (Nat.le_of_ble_eq_true rfl) (Nat.le_of_ble_eq_true rfl) ?_
                                               exact ⟨rfl, rfl⟩)))
                                · first
                                  | (exfalso; first | exact absurd c_65 (by decide) | first | contradiction | omega)
                                  | (refine ri_iconstN h 2 d_Md_faultOf_68 rfl ?_
                                     refine ri_goto h 92 d_Md_faultOf_69 (by decide) ?_
                                     refine ri_ireturn h d_Md_faultOf_92 (Nat.le_of_ble_eq_true rfl) (Nat.le_of_ble_eq_true rfl) ?_
                                     exact ⟨rfl, rfl⟩))
                           · first
                             | (exfalso; first | exact absurd c_50 (by decide) | first | contradiction | omega)
                             | (refine ri_iconstN h 1 d_Md_faultOf_53 rfl ?_
                                refine ri_goto h 92 d_Md_faultOf_54 (by decide) ?_
                                refine ri_ireturn h d_Md_faultOf_92 (Nat.le_of_ble_eq_true rfl) (Nat.le_of_ble_eq_true rfl) ?_
                                exact ⟨rfl, rfl⟩))
                      · first
                        | (exfalso; first | exact absurd c_38 (by decide) | first | contradiction | omega)
                        | (refine ri_iconstN h 1 d_Md_faultOf_41 rfl ?_
                           refine ri_goto h 46 d_Md_faultOf_42 (by decide) ?_
                           refine ri_istore h d_Md_faultOf_46 (Nat.le_of_ble_eq_true rfl) ?_
                           refine ri_iload h d_Md_faultOf_48 rfl ?_
                           first | refine ri_ifB_ne h 57 d_Md_faultOf_50 (by decide) (fun c_50 => ?_) (fun c_50 => ?_) | refine ri_ifN_ne h 57 d_Md_faultOf_50 (by decide) (by omega) (fun c_50 => ?_) (fun c_50 => ?_) | refine ri_if_ne h 57 d_Md_faultOf_50 (by decide) (fun c_50 => ?_) (fun c_50 => ?_)
                           · first
                             | (exfalso; first | exact absurd c_50 (by decide) | first | contradiction | omega)
                             | (refine ri_aload_n h d_Md_faultOf_57 rfl ?_
                                refine ri_get h d_Md_faultOf_58 fl_Md_23 (by first | assumption | exact hS.mo | exact gup_s) (by rfl) ?_
                                refine ri_iload_n h d_Md_faultOf_61 rfl ?_
                                refine ri_ialdE h _ d_Md_faultOf_62 (by first | assumption | exact hS.a7) (by first | rfl | assumption) (by first | assumption | omega) (by first | decide | omega) (by first | assumption | exact hm.i7 (by first | assumption | omega) | rfl) ?_
                                refine ri_bipushN h 24 d_Md_faultOf_63 rfl ?_
                                first | refine ri_icmpN_ne h 72 d_Md_faultOf_65 (by decide) (by omega) (by omega) (fun c_65 => ?_) (fun c_65 => ?_) | refine ri_icmp_ne h 72 d_Md_faultOf_65 (by decide) (fun c_65 => ?_) (fun c_65 => ?_)
                                · first
                                  | (exfalso; first | exact absurd c_65 (by decide) | first | contradiction | omega)
                                  | (refine ri_lload_n h d_Md_faultOf_72 rfl ?_
                                     refine ri_cSv_1 h d_Md_faultOf_73 cs_Md_136 (k_far h0) (Nat.le_of_ble_eq_true rfl) (Nat.le_of_ble_eq_true rfl) (Nat.le_of_ble_eq_true rfl) (Nat.le_of_ble_eq_true rfl) (Nat.le_of_ble_eq_true rfl) ?_
                                     first | refine ri_ifB_ne h 87 d_Md_faultOf_76 (by decide) (fun c_76 => ?_) (fun c_76 => ?_) | refine ri_ifN_ne h 87 d_Md_faultOf_76 (by decide) (by omega) (fun c_76 => ?_) (fun c_76 => ?_) | refine ri_if_ne h 87 d_Md_faultOf_76 (by decide) (fun c_76 => ?_) (fun c_76 => ?_)
                                     · first
                                       | (exfalso; first | exact absurd c_76 (by decide) | first | contradiction | omega)
                                       | (refine ri_iconstN h 3 d_Md_faultOf_87 rfl ?_
                                          refine ri_goto h 92 d_Md_faultOf_88 (by decide) ?_
                                          refine ri_ireturn h d_Md_faultOf_92 (Nat.le_of_ble_eq_true rfl) (Nat.le_of_ble_eq_true rfl) ?_
                                          exact ⟨rfl, rfl⟩)
                                     · first
                                       | (exfalso; first | exact absurd c_76 (by decide) | first | contradiction | omega)
                                       | (refine ri_lload h d_Md_faultOf_79 rfl ?_
                                          refine ri_cSv_1 h d_Md_faultOf_81 cs_Md_136 (k_far h0) (Nat.le_of_ble_eq_true rfl) (Nat.le_of_ble_eq_true rfl) (Nat.le_of_ble_eq_true rfl) (Nat.le_of_ble_eq_true rfl) (Nat.le_of_ble_eq_true rfl) ?_
                                          first | refine ri_ifB_eq h 91 d_Md_faultOf_84 (by decide) (fun c_84 => ?_) (fun c_84 => ?_) | refine ri_ifN_eq h 91 d_Md_faultOf_84 (by decide) (by omega) (fun c_84 => ?_) (fun c_84 => ?_) | refine ri_if_eq h 91 d_Md_faultOf_84 (by decide) (fun c_84 => ?_) (fun c_84 => ?_)
                                          · first
                                            | (exfalso; first | exact absurd c_84 (by decide) | first | contradiction | omega)
                                            | (refine ri_iconstN h 0 d_Md_faultOf_91 rfl ?_
                                               refine ri_ireturn h d_Md_faultOf_92 (Nat.le_of_ble_eq_true rfl) (Nat.le_of_ble_eq_true rfl) ?_
                                               exact ⟨rfl, rfl⟩)
                                          · first
                                            | (exfalso; first | exact absurd c_84 (by decide) | first | contradiction | omega)
                                            | (refine ri_iconstN h 3 d_Md_faultOf_87 rfl ?_
                                               refine ri_goto h 92 d_Md_faultOf_88 (by decide) ?_
                                               refine ri_ireturn h d_Md_faultOf_92 (Nat.le_of_ble_eq_true rfl) (Nat.le_of_ble_eq_true rfl) ?_
                                               exact ⟨rfl, rfl⟩)))
                                · first
                                  | (exfalso; first | exact absurd c_65 (by decide) | first | contradiction | omega)
                                  | (refine ri_iconstN h 2 d_Md_faultOf_68 rfl ?_
                                     refine ri_goto h 92 d_Md_faultOf_69 (by decide) ?_
                                     refine ri_ireturn h d_Md_faultOf_92 (Nat.le_of_ble_eq_true rfl) (Nat.le_of_ble_eq_true rfl) ?_
                                     exact ⟨rfl, rfl⟩))
                           · first
                             | (exfalso; first | exact absurd c_50 (by decide) | first | contradiction | omega)
                             | (refine ri_iconstN h 1 d_Md_faultOf_53 rfl ?_
                                refine ri_goto h 92 d_Md_faultOf_54 (by decide) ?_
                                refine ri_ireturn h d_Md_faultOf_92 (Nat.le_of_ble_eq_true rfl) (Nat.le_of_ble_eq_true rfl) ?_
                                exact ⟨rfl, rfl⟩)))
                 · first
                   | (exfalso; first | exact absurd c_28 (by decide) | first | contradiction | omega)
                   | (refine ri_iconstN h 1 d_Md_faultOf_32 rfl ?_
                      refine ri_goto h 37 d_Md_faultOf_33 (by decide) ?_
                      refine ri_iload_n h d_Md_faultOf_37 rfl ?_
                      first | refine ri_icmpN_ne h 45 d_Md_faultOf_38 (by decide) (by omega) (by omega) (fun c_38 => ?_) (fun c_38 => ?_) | refine ri_icmp_ne h 45 d_Md_faultOf_38 (by decide) (fun c_38 => ?_) (fun c_38 => ?_)
                      · first
                        | (exfalso; first | exact absurd c_38 (by decide) | first | contradiction | omega)
                        | (refine ri_iconstN h 0 d_Md_faultOf_45 rfl ?_
                           refine ri_istore h d_Md_faultOf_46 (Nat.le_of_ble_eq_true rfl) ?_
                           refine ri_iload h d_Md_faultOf_48 rfl ?_
                           first | refine ri_ifB_ne h 57 d_Md_faultOf_50 (by decide) (fun c_50 => ?_) (fun c_50 => ?_) | refine ri_ifN_ne h 57 d_Md_faultOf_50 (by decide) (by omega) (fun c_50 => ?_) (fun c_50 => ?_) | refine ri_if_ne h 57 d_Md_faultOf_50 (by decide) (fun c_50 => ?_) (fun c_50 => ?_)
                           · first
                             | (exfalso; first | exact absurd c_50 (by decide) | first | contradiction | omega)
                             | (refine ri_aload_n h d_Md_faultOf_57 rfl ?_
                                refine ri_get h d_Md_faultOf_58 fl_Md_23 (by first | assumption | exact hS.mo | exact gup_s) (by rfl) ?_
                                refine ri_iload_n h d_Md_faultOf_61 rfl ?_
                                refine ri_ialdE h _ d_Md_faultOf_62 (by first | assumption | exact hS.a7) (by first | rfl | assumption) (by first | assumption | omega) (by first | decide | omega) (by first | assumption | exact hm.i7 (by first | assumption | omega) | rfl) ?_
                                refine ri_bipushN h 24 d_Md_faultOf_63 rfl ?_
                                first | refine ri_icmpN_ne h 72 d_Md_faultOf_65 (by decide) (by omega) (by omega) (fun c_65 => ?_) (fun c_65 => ?_) | refine ri_icmp_ne h 72 d_Md_faultOf_65 (by decide) (fun c_65 => ?_) (fun c_65 => ?_)
                                · first
                                  | (exfalso; first | exact absurd c_65 (by decide) | first | contradiction | omega)
                                  | (refine ri_lload_n h d_Md_faultOf_72 rfl ?_
                                     refine ri_cSv_1 h d_Md_faultOf_73 cs_Md_136 (k_far h0) (Nat.le_of_ble_eq_true rfl) (Nat.le_of_ble_eq_true rfl) (Nat.le_of_ble_eq_true rfl) (Nat.le_of_ble_eq_true rfl) (Nat.le_of_ble_eq_true rfl) ?_
                                     first | refine ri_ifB_ne h 87 d_Md_faultOf_76 (by decide) (fun c_76 => ?_) (fun c_76 => ?_) | refine ri_ifN_ne h 87 d_Md_faultOf_76 (by decide) (by omega) (fun c_76 => ?_) (fun c_76 => ?_) | refine ri_if_ne h 87 d_Md_faultOf_76 (by decide) (fun c_76 => ?_) (fun c_76 => ?_)
                                     · first
                                       | (exfalso; first | exact absurd c_76 (by decide) | first | contradiction | omega)
                                       | (refine ri_iconstN h 3 d_Md_faultOf_87 rfl ?_
                                          refine ri_goto h 92 d_Md_faultOf_88 (by decide) ?_
                                          refine ri_ireturn h d_Md_faultOf_92 (Nat.le_of_ble_eq_true rfl) (Nat.le_of_ble_eq_true rfl) ?_
                                          exact ⟨rfl, rfl⟩)
                                     · first
                                       | (exfalso; first | exact absurd c_76 (by decide) | first | contradiction | omega)
                                       | (refine ri_lload h d_Md_faultOf_79 rfl ?_
                                          refine ri_cSv_1 h d_Md_faultOf_81 cs_Md_136 (k_far h0) (Nat.le_of_ble_eq_true rfl) (Nat.le_of_ble_eq_true rfl) (Nat.le_of_ble_eq_true rfl) (Nat.le_of_ble_eq_true rfl) (Nat.le_of_ble_eq_true rfl) ?_
                                          first | refine ri_ifB_eq h 91 d_Md_faultOf_84 (by decide) (fun c_84 => ?_) (fun c_84 => ?_) | refine ri_ifN_eq h 91 d_Md_faultOf_84 (by decide) (by omega) (fun c_84 => ?_) (fun c_84 => ?_) | refine ri_if_eq h 91 d_Md_faultOf_84 (by decide) (fun c_84 => ?_) (fun c_84 => ?_)
                                          · first
                                            | (exfalso; first | exact absurd c_84 (by decide) | first | contradiction | omega)
                                            | (refine ri_iconstN h 0 d_Md_faultOf_91 rfl ?_
                                               refine ri_ireturn h d_Md_faultOf_92 (Nat.le_of_ble_eq_true rfl) (Nat.le_of_ble_eq_true rfl) ?_
                                               exact ⟨rfl, rfl⟩)
                                          · first
                                            | (exfalso; first | exact absurd c_84 (by decide) | first | contradiction | omega)
                                            | (refine ri_iconstN h 3 d_Md_faultOf_87 rfl ?_
                                               refine ri_goto h 92 d_Md_faultOf_88 (by decide) ?_
                                               refine ri_ireturn h d_Md_faultOf_92 (Nat.le_of_ble_eq_true rfl) (Nat.le_of_ble_eq_true rfl) ?_
                                               exact ⟨rfl, rfl⟩)))
                                · first
                                  | (exfalso; first | exact absurd c_65 (by decide) | first | contradiction | omega)
                                  | (refine ri_iconstN h 2 d_Md_faultOf_68 rfl ?_
                                     refine ri_goto h 92 d_Md_faultOf_69 (by decide) ?_
                                     refine ri_ireturn h d_Md_faultOf_92 (Nat.le_of_ble_eq_true rfl) (Nat.le_of_ble_eq_true rfl) ?_
                                     exact ⟨rfl, rfl⟩))
                           · first
                             | (exfalso; first | exact absurd c_50 (by decide) | first | contradiction | omega)
                             | (refine ri_iconstN h 1 d_Md_faultOf_53 rfl ?_
                                refine ri_goto h 92 d_Md_faultOf_54 (by decide) ?_
                                refine ri_ireturn h d_Md_faultOf_92 (Nat.le_of_ble_eq_true rfl) (Nat.le_of_ble_eq_true rfl) ?_
                                exact ⟨rfl, rfl⟩))
                      · first
                        | (exfalso; first | exact absurd c_38 (by decide) | first | contradiction | omega)
                        | (refine ri_iconstN h 1 d_Md_faultOf_41 rfl ?_
                           refine ri_goto h 46 d_Md_faultOf_42 (by decide) ?_
                           refine ri_istore h d_Md_faultOf_46 (Nat.le_of_ble_eq_true rfl) ?_
                           refine ri_iload h d_Md_faultOf_48 rfl ?_
                           first | refine ri_ifB_ne h 57 d_Md_faultOf_50 (by decide) (fun c_50 => ?_) (fun c_50 => ?_) | refine ri_ifN_ne h 57 d_Md_faultOf_50 (by decide) (by omega) (fun c_50 => ?_) (fun c_50 => ?_) | refine ri_if_ne h 57 d_Md_faultOf_50 (by decide) (fun c_50 => ?_) (fun c_50 => ?_)
                           · first
                             | (exfalso; first | exact absurd c_50 (by decide) | first | contradiction | omega)
                             | (refine ri_aload_n h d_Md_faultOf_57 rfl ?_
                                refine ri_get h d_Md_faultOf_58 fl_Md_23 (by first | assumption | exact hS.mo | exact gup_s) (by rfl) ?_
                                refine ri_iload_n h d_Md_faultOf_61 rfl ?_
                                refine ri_ialdE h _ d_Md_faultOf_62 (by first | assumption | exact hS.a7) (by first | rfl | assumption) (by first | assumption | omega) (by first | decide | omega) (by first | assumption | exact hm.i7 (by first | assumption | omega) | rfl) ?_
                                refine ri_bipushN h 24 d_Md_faultOf_63 rfl ?_
                                first | refine ri_icmpN_ne h 72 d_Md_faultOf_65 (by decide) (by omega) (by omega) (fun c_65 => ?_) (fun c_65 => ?_) | refine ri_icmp_ne h 72 d_Md_faultOf_65 (by decide) (fun c_65 => ?_) (fun c_65 => ?_)
                                · first
                                  | (exfalso; first | exact absurd c_65 (by decide) | first | contradiction | omega)
                                  | (refine ri_lload_n h d_Md_faultOf_72 rfl ?_
                                     refine ri_cSv_1 h d_Md_faultOf_73 cs_Md_136 (k_far h0) (Nat.le_of_ble_eq_true rfl) (Nat.le_of_ble_eq_true rfl) (Nat.le_of_ble_eq_true rfl) (Nat.le_of_ble_eq_true rfl) (Nat.le_of_ble_eq_true rfl) ?_
                                     first | refine ri_ifB_ne h 87 d_Md_faultOf_76 (by decide) (fun c_76 => ?_) (fun c_76 => ?_) | refine ri_ifN_ne h 87 d_Md_faultOf_76 (by decide) (by omega) (fun c_76 => ?_) (fun c_76 => ?_) | refine ri_if_ne h 87 d_Md_faultOf_76 (by decide) (fun c_76 => ?_) (fun c_76 => ?_)
                                     · first
                                       | (exfalso; first | exact absurd c_76 (by decide) | first | contradiction | omega)
                                       | (refine ri_iconstN h 3 d_Md_faultOf_87 rfl ?_
                                          refine ri_goto h 92 d_Md_faultOf_88 (by decide) ?_
                                          refine ri_ireturn h d_Md_faultOf_92 (Nat.le_of_ble_eq_true rfl) (Nat.le_of_ble_eq_true rfl) ?_
                                          exact ⟨rfl, rfl⟩)
                                     · first
                                       | (exfalso; first | exact absurd c_76 (by decide) | first | contradiction | omega)
                                       | (refine ri_lload h d_Md_faultOf_79 rfl ?_
                                          refine ri_cSv_1 h d_Md_faultOf_81 cs_Md_136 (k_far h0) (Nat.le_of_ble_eq_true rfl) (Nat.le_of_ble_eq_true rfl) (Nat.le_of_ble_eq_true rfl) (Nat.le_of_ble_eq_true rfl) (Nat.le_of_ble_eq_true rfl) ?_
                                          first | refine ri_ifB_eq h 91 d_Md_faultOf_84 (by decide) (fun c_84 => ?_) (fun c_84 => ?_) | refine ri_ifN_eq h 91 d_Md_faultOf_84 (by decide) (by omega) (fun c_84 => ?_) (fun c_84 => ?_) | refine ri_if_eq h 91 d_Md_faultOf_84 (by decide) (fun c_84 => ?_) (fun c_84 => ?_)
                                          · first
                                            | (exfalso; first | exact absurd c_84 (by decide) | first | contradiction | omega)
                                            | (refine ri_iconstN h 0 d_Md_faultOf_91 rfl ?_
                                               refine ri_ireturn h d_Md_faultOf_92 (Nat.le_of_ble_eq_true rfl) (Nat.le_of_ble_eq_true rfl) ?_
                                               exact ⟨rfl, rfl⟩)
                                          · first
                                            | (exfalso; first | exact absurd c_84 (by decide) | first | contradiction | omega)
                                            | (refine ri_iconstN h 3 d_Md_faultOf_87 rfl ?_
                                               refine ri_goto h 92 d_Md_faultOf_88 (by decide) ?_
                                               refine ri_ireturn h d_Md_faultOf_92 (Nat.le_of_ble_eq_true rfl) (Nat.le_of_ble_eq_true rfl) ?_
                                               exact ⟨rfl, rfl⟩)))
                                · first
                                  | (exfalso; first | exact absurd c_65 (by decide) | first | contradiction | omega)
                                  | (refine ri_iconstN h 2 d_Md_faultOf_68 rfl ?_
                                     refine ri_goto h 92 d_Md_faultOf_69 (by decide) ?_
                                     refine ri_ireturn h d_Md_faultOf_92 (Nat.le_of_ble_eq_true rfl) (Nat.le_of_ble_eq_true rfl) ?_
                                     exact ⟨rfl, rfl⟩))
                           · first
                             | (exfalso; first | exact absurd c_50 (by decide) | first | contradiction | omega)
                             | (refine ri_iconstN h 1 d_Md_faultOf_53 rfl ?_
                                refine ri_goto h 92 d_Md_faultOf_54 (by decide) ?_
                                refine ri_ireturn h d_Md_faultOf_92 (Nat.le_of_ble_eq_true rfl) (Nat.le_of_ble_eq_true rfl) ?_
                                exact ⟨rfl, rfl⟩))))))
theorem k_fault1_1 (h0 : g_0 l D s0) (hS : HS z ad Qc N M) (hm : MR Q N) (hW : WB Q) {v : Int32} {x y : Int64} (hn : ¬ ∃ s, s < Q.nS ∧ v = nI s ∧ (Q.sh s).drop = 0 ∧ spath (Q.sh s).w = 1) : Ct l D s0 y_Md_faultOf (Cond.code y_Md_faultOf b_Md_faultOf 8 (some .int)) (rk 1 0 0) [.ref (ad 30 0), .int v, .int (nI 1), .long x, .long y] M (fR (some (.int (nI 1))) M) := by
  have hb1 := hW.2.1
  have hns := hm.ns
  by_cases hv : ∃ s, s < Q.nS ∧ v = nI s
  · obtain ⟨s, hs, rfl⟩ := hv
    refine Ct.of h0 (by decide +kernel) rfl fun X hX h => ?_
    obtain ⟨p_, l', e_, R_, s_, m_, ar_, be_, me_, c_⟩ := X
    obtain rfl : l' = l := hX
    refine ri_iload_n h d_Md_faultOf_0 rfl ?_
    refine ri_ifM_lt h 45 d_Md_faultOf_1 (by decide) (by omega) (fun c_1 => ?_) (fun c_1 => ?_)
    · exact c_1.elim
    · first
      | (exfalso; first | exact absurd c_1 (by decide) | omega)
      | (refine ri_iload_n h d_Md_faultOf_4 rfl ?_
         refine ri_aload_n h d_Md_faultOf_5 rfl ?_
         refine ri_get h d_Md_faultOf_6 fl_Md_118 (by first | assumption | exact hS.mo | exact gup_s) (by rfl) ?_
         first | refine ri_icmpN_ge h 45 d_Md_faultOf_9 (by decide) (by omega) (by omega) (fun c_9 => ?_) (fun c_9 => ?_) | refine ri_icmp_ge h 45 d_Md_faultOf_9 (by decide) (fun c_9 => ?_) (fun c_9 => ?_)
         · first
           | (exfalso; first | exact absurd c_9 (by decide) | omega)
           | (refine ri_iconstN h 0 d_Md_faultOf_45 rfl ?_
              refine ri_istore h d_Md_faultOf_46 (Nat.le_of_ble_eq_true rfl) ?_
              refine ri_iload h d_Md_faultOf_48 rfl ?_
              first | refine ri_ifB_ne h 57 d_Md_faultOf_50 (by decide) (fun c_50 => ?_) (fun c_50 => ?_) | refine ri_ifN_ne h 57 d_Md_faultOf_50 (by decide) (by omega) (fun c_50 => ?_) (fun c_50 => ?_) | refine ri_if_ne h 57 d_Md_faultOf_50 (by decide) (fun c_50 => ?_) (fun c_50 => ?_)
              · first
                | (exfalso; first | exact absurd c_50 (by decide) | omega)
                | ((exfalso; first | exact hn ⟨s, hs, rfl, c_18, by simp [spath, Int64.not_le.mp c_28]⟩ | omega | contradiction))
              · first
                | (exfalso; first | exact absurd c_50 (by decide) | omega)
                | (refine ri_iconstN h 1 d_Md_faultOf_53 rfl ?_
                   refine ri_goto h 92 d_Md_faultOf_54 (by decide) ?_
                   refine ri_ireturn h d_Md_faultOf_92 (Nat.le_of_ble_eq_true rfl) (Nat.le_of_ble_eq_true rfl) ?_
                   exact ⟨rfl, rfl⟩))
         · first
           | (exfalso; first | exact absurd c_9 (by decide) | omega)
           | (refine ri_aload_n h d_Md_faultOf_12 rfl ?_
              refine ri_get h d_Md_faultOf_13 fl_Md_26 (by first | assumption | exact hS.mo | exact gup_s) (by rfl) ?_
              refine ri_iload_n h d_Md_faultOf_16 rfl ?_
              refine ri_zaldE h _ d_Md_faultOf_17 (by first | assumption | exact hS.a8) (by first | rfl | assumption) (by first | assumption | omega) (by first | decide | omega) (by first | assumption | exact hm.i8 (by first | assumption | omega) | rfl) ?_
              refine ri_if_ne h 45 d_Md_faultOf_18 (by decide) (fun c_18 => ?_) (fun c_18 => ?_)
              · first
                | (exfalso; first | exact absurd c_18 (by decide) | omega)
                | (refine ri_iconstN h 0 d_Md_faultOf_45 rfl ?_
                   refine ri_istore h d_Md_faultOf_46 (Nat.le_of_ble_eq_true rfl) ?_
                   refine ri_iload h d_Md_faultOf_48 rfl ?_
                   first | refine ri_ifB_ne h 57 d_Md_faultOf_50 (by decide) (fun c_50 => ?_) (fun c_50 => ?_) | refine ri_ifN_ne h 57 d_Md_faultOf_50 (by decide) (by omega) (fun c_50 => ?_) (fun c_50 => ?_) | refine ri_if_ne h 57 d_Md_faultOf_50 (by decide) (fun c_50 => ?_) (fun c_50 => ?_)
                   · first
                     | (exfalso; first | exact absurd c_50 (by decide) | omega)
                     | ((exfalso; first | exact hn ⟨s, hs, rfl, c_18, by simp [spath, Int64.not_le.mp c_28]⟩ | omega | contradiction))
                   · first
                     | (exfalso; first | exact absurd c_50 (by decide) | omega)
                     | (refine ri_iconstN h 1 d_Md_faultOf_53 rfl ?_
                        refine ri_goto h 92 d_Md_faultOf_54 (by decide) ?_
                        refine ri_ireturn h d_Md_faultOf_92 (Nat.le_of_ble_eq_true rfl) (Nat.le_of_ble_eq_true rfl) ?_
                        exact ⟨rfl, rfl⟩))
              · first
                | (exfalso; first | exact absurd c_18 (by decide) | omega)
                | (refine ri_aload_n h d_Md_faultOf_21 rfl ?_
                   refine ri_get h d_Md_faultOf_22 fl_Md_16 (by first | assumption | exact hS.mo | exact gup_s) (by rfl) ?_
                   refine ri_iload_n h d_Md_faultOf_25 rfl ?_
                   refine ri_laldE h _ d_Md_faultOf_26 (by first | assumption | exact hS.a5) (by first | rfl | assumption) (by first | assumption | omega) (by first | decide | omega) (by first | assumption | exact hm.i5 (by first | assumption | omega) | rfl) ?_
                   refine ri_lconst h 0 d_Md_faultOf_27 rfl ?_
                   refine ri_lcmp_le h 36 d_Md_faultOf_28 d_Md_faultOf_29 (by decide) (fun c_28 => ?_) (fun c_28 => ?_)
                   · first
                     | (exfalso; first | exact absurd c_28 (by decide) | omega)
                     | (refine ri_iconstN h 0 d_Md_faultOf_36 rfl ?_
                        refine ri_iload_n h d_Md_faultOf_37 rfl ?_
                        first | refine ri_icmpN_ne h 45 d_Md_faultOf_38 (by decide) (by omega) (by omega) (fun c_38 => ?_) (fun c_38 => ?_) | refine ri_icmp_ne h 45 d_Md_faultOf_38 (by decide) (fun c_38 => ?_) (fun c_38 => ?_)
                        · first
                          | (exfalso; first | exact absurd c_38 (by decide) | omega)
                          | (refine ri_iconstN h 0 d_Md_faultOf_45 rfl ?_
                             refine ri_istore h d_Md_faultOf_46 (Nat.le_of_ble_eq_true rfl) ?_
                             refine ri_iload h d_Md_faultOf_48 rfl ?_
                             first | refine ri_ifB_ne h 57 d_Md_faultOf_50 (by decide) (fun c_50 => ?_) (fun c_50 => ?_) | refine ri_ifN_ne h 57 d_Md_faultOf_50 (by decide) (by omega) (fun c_50 => ?_) (fun c_50 => ?_) | refine ri_if_ne h 57 d_Md_faultOf_50 (by decide) (fun c_50 => ?_) (fun c_50 => ?_)
                             · first
                               | (exfalso; first | exact absurd c_50 (by decide) | omega)
                               | ((exfalso; first | exact hn ⟨s, hs, rfl, c_18, by simp [spath, Int64.not_le.mp c_28]⟩ | omega | contradiction))
                             · first
                               | (exfalso; first | exact absurd c_50 (by decide) | omega)
                               | (refine ri_iconstN h 1 d_Md_faultOf_53 rfl ?_
                                  refine ri_goto h 92 d_Md_faultOf_54 (by decide) ?_
                                  refine ri_ireturn h d_Md_faultOf_92 (Nat.le_of_ble_eq_true rfl) (Nat.le_of_ble_eq_true rfl) ?_
                                  exact ⟨rfl, rfl⟩))
                        · first
                          | (exfalso; first | exact absurd c_38 (by decide) | omega)
                          | (refine ri_iconstN h 1 d_Md_faultOf_41 rfl ?_
                             refine ri_goto h 46 d_Md_faultOf_42 (by decide) ?_
                             refine ri_istore h d_Md_faultOf_46 (Nat.le_of_ble_eq_true rfl) ?_
                             refine ri_iload h d_Md_faultOf_48 rfl ?_
                             first | refine ri_ifB_ne h 57 d_Md_faultOf_50 (by decide) (fun c_50 => ?_) (fun c_50 => ?_) | refine ri_ifN_ne h 57 d_Md_faultOf_50 (by decide) (by omega) (fun c_50 => ?_) (fun c_50 => ?_) | refine ri_if_ne h 57 d_Md_faultOf_50 (by decide) (fun c_50 => ?_) (fun c_50 => ?_)
                             · first
                               | (exfalso; first | exact absurd c_50 (by decide) | omega)
                               | ((exfalso; first | exact hn ⟨s, hs, rfl, c_18, by simp [spath, Int64.not_le.mp c_28]⟩ | omega | contradiction))
                             · first
                               | (exfalso; first | exact absurd c_50 (by decide) | omega)
                               | (refine ri_iconstN h 1 d_Md_faultOf_53 rfl ?_
                                  refine ri_goto h 92 d_Md_faultOf_54 (by decide) ?_
                                  refine ri_ireturn h d_Md_faultOf_92 (Nat.le_of_ble_eq_true rfl) (Nat.le_of_ble_eq_true rfl) ?_
                                  exact ⟨rfl, rfl⟩)))
                   · first
                     | (exfalso; first | exact absurd c_28 (by decide) | omega)
                     | (refine ri_iconstN h 1 d_Md_faultOf_32 rfl ?_
                        refine ri_goto h 37 d_Md_faultOf_33 (by decide) ?_
                        refine ri_iload_n h d_Md_faultOf_37 rfl ?_
                        first | refine ri_icmpN_ne h 45 d_Md_faultOf_38 (by decide) (by omega) (by omega) (fun c_38 => ?_) (fun c_38 => ?_) | refine ri_icmp_ne h 45 d_Md_faultOf_38 (by decide) (fun c_38 => ?_) (fun c_38 => ?_)
                        · first
                          | (exfalso; first | exact absurd c_38 (by decide) | omega)
                          | (refine ri_iconstN h 0 d_Md_faultOf_45 rfl ?_
                             refine ri_istore h d_Md_faultOf_46 (Nat.le_of_ble_eq_true rfl) ?_
                             refine ri_iload h d_Md_faultOf_48 rfl ?_
                             first | refine ri_ifB_ne h 57 d_Md_faultOf_50 (by decide) (fun c_50 => ?_) (fun c_50 => ?_) | refine ri_ifN_ne h 57 d_Md_faultOf_50 (by decide) (by omega) (fun c_50 => ?_) (fun c_50 => ?_) | refine ri_if_ne h 57 d_Md_faultOf_50 (by decide) (fun c_50 => ?_) (fun c_50 => ?_)
                             · first
                               | (exfalso; first | exact absurd c_50 (by decide) | omega)
                               | ((exfalso; first | exact hn ⟨s, hs, rfl, c_18, by simp [spath, Int64.not_le.mp c_28]⟩ | omega | contradiction))
                             · first
                               | (exfalso; first | exact absurd c_50 (by decide) | omega)
                               | (refine ri_iconstN h 1 d_Md_faultOf_53 rfl ?_
                                  refine ri_goto h 92 d_Md_faultOf_54 (by decide) ?_
                                  refine ri_ireturn h d_Md_faultOf_92 (Nat.le_of_ble_eq_true rfl) (Nat.le_of_ble_eq_true rfl) ?_
                                  exact ⟨rfl, rfl⟩))
                        · first
                          | (exfalso; first | exact absurd c_38 (by decide) | omega)
                          | (refine ri_iconstN h 1 d_Md_faultOf_41 rfl ?_
                             refine ri_goto h 46 d_Md_faultOf_42 (by decide) ?_
                             refine ri_istore h d_Md_faultOf_46 (Nat.le_of_ble_eq_true rfl) ?_
                             refine ri_iload h d_Md_faultOf_48 rfl ?_
                             first | refine ri_ifB_ne h 57 d_Md_faultOf_50 (by decide) (fun c_50 => ?_) (fun c_50 => ?_) | refine ri_ifN_ne h 57 d_Md_faultOf_50 (by decide) (by omega) (fun c_50 => ?_) (fun c_50 => ?_) | refine ri_if_ne h 57 d_Md_faultOf_50 (by decide) (fun c_50 => ?_) (fun c_50 => ?_)
                             · first
                               | (exfalso; first | exact absurd c_50 (by decide) | omega)
                               | ((exfalso; first | exact hn ⟨s, hs, rfl, c_18, by simp [spath, Int64.not_le.mp c_28]⟩ | omega | contradiction))
                             · first
                               | (exfalso; first | exact absurd c_50 (by decide) | omega)
                               | (refine ri_iconstN h 1 d_Md_faultOf_53 rfl ?_
                                  refine ri_goto h 92 d_Md_faultOf_54 (by decide) ?_
                                  refine ri_ireturn h d_Md_faultOf_92 (Nat.le_of_ble_eq_true rfl) (Nat.le_of_ble_eq_true rfl) ?_
                                  exact ⟨rfl, rfl⟩))))))
  · refine Ct.of h0 (by decide +kernel) rfl fun X hX h => ?_
    obtain ⟨p_, l', e_, R_, s_, m_, ar_, be_, me_, c_⟩ := X
    obtain rfl : l' = l := hX
    refine ri_iload_n h d_Md_faultOf_0 rfl ?_
    refine ri_if_lt h 45 d_Md_faultOf_1 (by decide) (fun c_1 => ?_) (fun c_1 => ?_)
    · first
      | (exfalso; first | exact absurd c_1 (by decide) | first | contradiction | omega)
      | (refine ri_iconstN h 0 d_Md_faultOf_45 rfl ?_
         refine ri_istore h d_Md_faultOf_46 (Nat.le_of_ble_eq_true rfl) ?_
         refine ri_iload h d_Md_faultOf_48 rfl ?_
         first | refine ri_ifB_ne h 57 d_Md_faultOf_50 (by decide) (fun c_50 => ?_) (fun c_50 => ?_) | refine ri_ifN_ne h 57 d_Md_faultOf_50 (by decide) (by omega) (fun c_50 => ?_) (fun c_50 => ?_) | refine ri_if_ne h 57 d_Md_faultOf_50 (by decide) (fun c_50 => ?_) (fun c_50 => ?_)
         · first
           | (exfalso; first | exact absurd c_50 (by decide) | first | contradiction | omega)
           | (refine ri_aload_n h d_Md_faultOf_57 rfl ?_
              refine ri_get h d_Md_faultOf_58 fl_Md_23 (by first | assumption | exact hS.mo | exact gup_s) (by rfl) ?_
              refine ri_iload_n h d_Md_faultOf_61 rfl ?_
              refine ri_ialdE h _ d_Md_faultOf_62 (by first | assumption | exact hS.a7) (by first | rfl | assumption) (by first | assumption | omega) (by first | decide | omega) (by first | assumption | exact hm.i7 (by first | assumption | omega) | rfl) ?_
              refine ri_bipushN h 24 d_Md_faultOf_63 rfl ?_
              first | refine ri_icmpN_ne h 72 d_Md_faultOf_65 (by decide) (by omega) (by omega) (fun c_65 => ?_) (fun c_65 => ?_) | refine ri_icmp_ne h 72 d_Md_faultOf_65 (by decide) (fun c_65 => ?_) (fun c_65 => ?_)
              · first
                | (exfalso; first | exact absurd c_65 (by decide) | first | contradiction | omega)
                | (refine ri_lload_n h d_Md_faultOf_72 rfl ?_
                   refine ri_cSv_1 h d_Md_faultOf_73 cs_Md_136 (k_far h0) (Nat.le_of_ble_eq_true rfl) (Nat.le_of_ble_eq_true rfl) (Nat.le_of_ble_eq_true rfl) (Nat.le_of_ble_eq_true rfl) (Nat.le_of_ble_eq_true rfl) ?_
                   first | refine ri_ifB_ne h 87 d_Md_faultOf_76 (by decide) (fun c_76 => ?_) (fun c_76 => ?_) | refine ri_ifN_ne h 87 d_Md_faultOf_76 (by decide) (by omega) (fun c_76 => ?_) (fun c_76 => ?_) | refine ri_if_ne h 87 d_Md_faultOf_76 (by decide) (fun c_76 => ?_) (fun c_76 => ?_)
                   · first
                     | (exfalso; first | exact absurd c_76 (by decide) | first | contradiction | omega)
                     | (refine ri_iconstN h 3 d_Md_faultOf_87 rfl ?_
                        refine ri_goto h 92 d_Md_faultOf_88 (by decide) ?_
                        refine ri_ireturn h d_Md_faultOf_92 (Nat.le_of_ble_eq_true rfl) (Nat.le_of_ble_eq_true rfl) ?_
                        exact ⟨rfl, rfl⟩)
                   · first
                     | (exfalso; first | exact absurd c_76 (by decide) | first | contradiction | omega)
                     | (refine ri_lload h d_Md_faultOf_79 rfl ?_
                        refine ri_cSv_1 h d_Md_faultOf_81 cs_Md_136 (k_far h0) (Nat.le_of_ble_eq_true rfl) (Nat.le_of_ble_eq_true rfl) (Nat.le_of_ble_eq_true rfl) (Nat.le_of_ble_eq_true rfl) (Nat.le_of_ble_eq_true rfl) ?_
                        first | refine ri_ifB_eq h 91 d_Md_faultOf_84 (by decide) (fun c_84 => ?_) (fun c_84 => ?_) | refine ri_ifN_eq h 91 d_Md_faultOf_84 (by decide) (by omega) (fun c_84 => ?_) (fun c_84 => ?_) | refine ri_if_eq h 91 d_Md_faultOf_84 (by decide) (fun c_84 => ?_) (fun c_84 => ?_)
                        · first
                          | (exfalso; first | exact absurd c_84 (by decide) | first | contradiction | omega)
                          | (refine ri_iconstN h 0 d_Md_faultOf_91 rfl ?_
                             refine ri_ireturn h d_Md_faultOf_92 (Nat.le_of_ble_eq_true rfl) (Nat.le_of_ble_eq_true rfl) ?_
                             exact ⟨rfl, rfl⟩)
                        · first
                          | (exfalso; first | exact absurd c_84 (by decide) | first | contradiction | omega)
                          | (refine ri_iconstN h 3 d_Md_faultOf_87 rfl ?_
                             refine ri_goto h 92 d_Md_faultOf_88 (by decide) ?_
                             refine ri_ireturn h d_Md_faultOf_92 (Nat.le_of_ble_eq_true rfl) (Nat.le_of_ble_eq_true rfl) ?_
                             exact ⟨rfl, rfl⟩)))
              · first
                | (exfalso; first | exact absurd c_65 (by decide) | first | contradiction | omega)
                | (refine ri_iconstN h 2 d_Md_faultOf_68 rfl ?_
                   refine ri_goto h 92 d_Md_faultOf_69 (by decide) ?_
                   refine ri_ireturn h d_Md_faultOf_92 (Nat.le_of_ble_eq_true rfl) (Nat.le_of_ble_eq_true rfl) ?_
                   exact ⟨rfl, rfl⟩))
         · first
           | (exfalso; first | exact absurd c_50 (by decide) | first | contradiction | omega)
           | (refine ri_iconstN h 1 d_Md_faultOf_53 rfl ?_
              refine ri_goto h 92 d_Md_faultOf_54 (by decide) ?_
              refine ri_ireturn h d_Md_faultOf_92 (Nat.le_of_ble_eq_true rfl) (Nat.le_of_ble_eq_true rfl) ?_
              exact ⟨rfl, rfl⟩))
    · first
      | (exfalso; first | exact absurd c_1 (by decide) | first | contradiction | omega)
      | (refine ri_iload_n h d_Md_faultOf_4 rfl ?_
         refine ri_aload_n h d_Md_faultOf_5 rfl ?_
         refine ri_get h d_Md_faultOf_6 fl_Md_118 (by first | assumption | exact hS.mo | exact gup_s) (by rfl) ?_
         refine ri_icmp_ge h 45 d_Md_faultOf_9 (by decide) (fun c_9 => ?_) (fun c_9 => ?_)
         · first
           | (exfalso; first | exact absurd c_9 (by decide) | first | contradiction | omega)
           | (refine ri_iconstN h 0 d_Md_faultOf_45 rfl ?_
              refine ri_istore h d_Md_faultOf_46 (Nat.le_of_ble_eq_true rfl) ?_
              refine ri_iload h d_Md_faultOf_48 rfl ?_
              first | refine ri_ifB_ne h 57 d_Md_faultOf_50 (by decide) (fun c_50 => ?_) (fun c_50 => ?_) | refine ri_ifN_ne h 57 d_Md_faultOf_50 (by decide) (by omega) (fun c_50 => ?_) (fun c_50 => ?_) | refine ri_if_ne h 57 d_Md_faultOf_50 (by decide) (fun c_50 => ?_) (fun c_50 => ?_)
              · first
                | (exfalso; first | exact absurd c_50 (by decide) | first | contradiction | omega)
                | (refine ri_aload_n h d_Md_faultOf_57 rfl ?_
                   refine ri_get h d_Md_faultOf_58 fl_Md_23 (by first | assumption | exact hS.mo | exact gup_s) (by rfl) ?_
                   refine ri_iload_n h d_Md_faultOf_61 rfl ?_
                   refine ri_ialdE h _ d_Md_faultOf_62 (by first | assumption | exact hS.a7) (by first | rfl | assumption) (by first | assumption | omega) (by first | decide | omega) (by first | assumption | exact hm.i7 (by first | assumption | omega) | rfl) ?_
                   refine ri_bipushN h 24 d_Md_faultOf_63 rfl ?_
                   first | refine ri_icmpN_ne h 72 d_Md_faultOf_65 (by decide) (by omega) (by omega) (fun c_65 => ?_) (fun c_65 => ?_) | refine ri_icmp_ne h 72 d_Md_faultOf_65 (by decide) (fun c_65 => ?_) (fun c_65 => ?_)
                   · first
                     | (exfalso; first | exact absurd c_65 (by decide) | first | contradiction | omega)
                     | (refine ri_lload_n h d_Md_faultOf_72 rfl ?_
                        refine ri_cSv_1 h d_Md_faultOf_73 cs_Md_136 (k_far h0) (Nat.le_of_ble_eq_true rfl) (Nat.le_of_ble_eq_true rfl) (Nat.le_of_ble_eq_true rfl) (Nat.le_of_ble_eq_true rfl) (Nat.le_of_ble_eq_true rfl) ?_
                        first | refine ri_ifB_ne h 87 d_Md_faultOf_76 (by decide) (fun c_76 => ?_) (fun c_76 => ?_) | refine ri_ifN_ne h 87 d_Md_faultOf_76 (by decide) (by omega) (fun c_76 => ?_) (fun c_76 => ?_) | refine ri_if_ne h 87 d_Md_faultOf_76 (by decide) (fun c_76 => ?_) (fun c_76 => ?_)
                        · first
                          | (exfalso; first | exact absurd c_76 (by decide) | first | contradiction | omega)
                          | (refine ri_iconstN h 3 d_Md_faultOf_87 rfl ?_
                             refine ri_goto h 92 d_Md_faultOf_88 (by decide) ?_
                             refine ri_ireturn h d_Md_faultOf_92 (Nat.le_of_ble_eq_true rfl) (Nat.le_of_ble_eq_true rfl) ?_
                             exact ⟨rfl, rfl⟩)
                        · first
                          | (exfalso; first | exact absurd c_76 (by decide) | first | contradiction | omega)
                          | (refine ri_lload h d_Md_faultOf_79 rfl ?_
                             refine ri_cSv_1 h d_Md_faultOf_81 cs_Md_136 (k_far h0) (Nat.le_of_ble_eq_true rfl) (Nat.le_of_ble_eq_true rfl) (Nat.le_of_ble_eq_true rfl) (Nat.le_of_ble_eq_true rfl) (Nat.le_of_ble_eq_true rfl) ?_
                             first | refine ri_ifB_eq h 91 d_Md_faultOf_84 (by decide) (fun c_84 => ?_) (fun c_84 => ?_) | refine ri_ifN_eq h 91 d_Md_faultOf_84 (by decide) (by omega) (fun c_84 => ?_) (fun c_84 => ?_) | refine ri_if_eq h 91 d_Md_faultOf_84 (by decide) (fun c_84 => ?_) (fun c_84 => ?_)
                             · first
                               | (exfalso; first | exact absurd c_84 (by decide) | first | contradiction | omega)
                               | (refine ri_iconstN h 0 d_Md_faultOf_91 rfl ?_
                                  refine ri_ireturn h d_Md_faultOf_92 (Nat.le_of_ble_eq_true rfl) (Nat.le_of_ble_eq_true rfl) ?_
                                  exact ⟨rfl, rfl⟩)
                             · first
                               | (exfalso; first | exact absurd c_84 (by decide) | first | contradiction | omega)
                               | (refine ri_iconstN h 3 d_Md_faultOf_87 rfl ?_
                                  refine ri_goto h 92 d_Md_faultOf_88 (by decide) ?_
                                  refine ri_ireturn h d_Md_faultOf_92 (Nat.le_of_ble_eq_true rfl) (Nat.le_of_ble_eq_true rfl) ?_
                                  exact ⟨rfl, rfl⟩)))
                   · first
                     | (exfalso; first | exact absurd c_65 (by decide) | first | contradiction | omega)
                     | (refine ri_iconstN h 2 d_Md_faultOf_68 rfl ?_
                        refine ri_goto h 92 d_Md_faultOf_69 (by decide) ?_
                        refine ri_ireturn h d_Md_faultOf_92 (Nat.le_of_ble_eq_true rfl) (Nat.le_of_ble_eq_true rfl) ?_
                        exact ⟨rfl, rfl⟩))
              · first
                | (exfalso; first | exact absurd c_50 (by decide) | first | contradiction | omega)
                | (refine ri_iconstN h 1 d_Md_faultOf_53 rfl ?_
                   refine ri_goto h 92 d_Md_faultOf_54 (by decide) ?_
                   refine ri_ireturn h d_Md_faultOf_92 (Nat.le_of_ble_eq_true rfl) (Nat.le_of_ble_eq_true rfl) ?_
                   exact ⟨rfl, rfl⟩))
         · first
           | (exfalso; first | exact absurd c_9 (by decide) | first | contradiction | omega)
           | (exact absurd (ix_of (by omega) c_1 (hns ▸ Int32.not_le.mp c_9)) hv))
theorem k_fault1_2 (h0 : g_0 l D s0) (hS : HS z ad Qc N M) (hm : MR Q N) (hW : WB Q) {s : Nat} (hs : s < Q.nS) (hd : (Q.sh s).drop = 0) (hp : spath (Q.sh s).w = 1) {x y : Int64} (hc : (Q.sh s).cnt = 24) : Ct l D s0 y_Md_faultOf (Cond.code y_Md_faultOf b_Md_faultOf 8 (some .int)) (rk 1 0 0) [.ref (ad 30 0), .int (nI s), .int (nI 1), .long x, .long y] M (fR (some (.int (nI 2))) M) := by
  have hb1 := hW.2.1
  have hns := hm.ns
  have hw : 0 < (Q.sh s).w := by
    by_cases q : 0 < (Q.sh s).w
    · exact q
    · exact absurd hp (by simp [spath, q])
  have hw := Int64.not_le.mpr hw
  refine Ct.of h0 (by decide +kernel) rfl fun X hX h => ?_
  obtain ⟨p_, l', e_, R_, s_, m_, ar_, be_, me_, c_⟩ := X
  obtain rfl : l' = l := hX
  refine ri_iload_n h d_Md_faultOf_0 rfl ?_
  refine ri_ifM_lt h 45 d_Md_faultOf_1 (by decide) (by omega) (fun c_1 => ?_) (fun c_1 => ?_)
  · exact c_1.elim
  · first
    | (exfalso; first | exact absurd c_1 (by decide) | first | contradiction | omega)
    | (refine ri_iload_n h d_Md_faultOf_4 rfl ?_
       refine ri_aload_n h d_Md_faultOf_5 rfl ?_
       refine ri_get h d_Md_faultOf_6 fl_Md_118 (by first | assumption | exact hS.mo | exact gup_s) (by rfl) ?_
       first | refine ri_icmpN_ge h 45 d_Md_faultOf_9 (by decide) (by omega) (by omega) (fun c_9 => ?_) (fun c_9 => ?_) | refine ri_icmp_ge h 45 d_Md_faultOf_9 (by decide) (fun c_9 => ?_) (fun c_9 => ?_)
       · first
         | (exfalso; first | exact absurd c_9 (by decide) | first | contradiction | omega)
         | (refine ri_iconstN h 0 d_Md_faultOf_45 rfl ?_
            refine ri_istore h d_Md_faultOf_46 (Nat.le_of_ble_eq_true rfl) ?_
            refine ri_iload h d_Md_faultOf_48 rfl ?_
            first | refine ri_ifB_ne h 57 d_Md_faultOf_50 (by decide) (fun c_50 => ?_) (fun c_50 => ?_) | refine ri_ifN_ne h 57 d_Md_faultOf_50 (by decide) (by omega) (fun c_50 => ?_) (fun c_50 => ?_) | refine ri_if_ne h 57 d_Md_faultOf_50 (by decide) (fun c_50 => ?_) (fun c_50 => ?_)
            · first
              | (exfalso; first | exact absurd c_50 (by decide) | first | contradiction | omega)
              | (refine ri_aload_n h d_Md_faultOf_57 rfl ?_
                 refine ri_get h d_Md_faultOf_58 fl_Md_23 (by first | assumption | exact hS.mo | exact gup_s) (by rfl) ?_
                 refine ri_iload_n h d_Md_faultOf_61 rfl ?_
                 refine ri_ialdE h _ d_Md_faultOf_62 (by first | assumption | exact hS.a7) (by first | rfl | assumption) (by first | assumption | omega) (by first | decide | omega) (by first | assumption | exact hm.i7 (by first | assumption | omega) | rfl) ?_
                 refine ri_bipushN h 24 d_Md_faultOf_63 rfl ?_
                 first | refine ri_icmpN_ne h 72 d_Md_faultOf_65 (by decide) (by omega) (by omega) (fun c_65 => ?_) (fun c_65 => ?_) | refine ri_icmp_ne h 72 d_Md_faultOf_65 (by decide) (fun c_65 => ?_) (fun c_65 => ?_)
                 · first
                   | (exfalso; first | exact absurd c_65 (by decide) | first | contradiction | omega)
                   | (omega)
                 · first
                   | (exfalso; first | exact absurd c_65 (by decide) | first | contradiction | omega)
                   | (refine ri_iconstN h 2 d_Md_faultOf_68 rfl ?_
                      refine ri_goto h 92 d_Md_faultOf_69 (by decide) ?_
                      refine ri_ireturn h d_Md_faultOf_92 (Nat.le_of_ble_eq_true rfl) (Nat.le_of_ble_eq_true rfl) ?_
                      exact ⟨rfl, rfl⟩))
            · first
              | (exfalso; first | exact absurd c_50 (by decide) | first | contradiction | omega)
              | (refine ri_iconstN h 1 d_Md_faultOf_53 rfl ?_
                 refine ri_goto h 92 d_Md_faultOf_54 (by decide) ?_
                 refine ri_ireturn h d_Md_faultOf_92 (Nat.le_of_ble_eq_true rfl) (Nat.le_of_ble_eq_true rfl) ?_
                 exact ⟨rfl, rfl⟩))
       · first
         | (exfalso; first | exact absurd c_9 (by decide) | first | contradiction | omega)
         | (refine ri_aload_n h d_Md_faultOf_12 rfl ?_
            refine ri_get h d_Md_faultOf_13 fl_Md_26 (by first | assumption | exact hS.mo | exact gup_s) (by rfl) ?_
            refine ri_iload_n h d_Md_faultOf_16 rfl ?_
            refine ri_zaldE h _ d_Md_faultOf_17 (by first | assumption | exact hS.a8) (by first | rfl | assumption) (by first | assumption | omega) (by first | decide | omega) (by first | assumption | exact hm.i8 (by first | assumption | omega) | rfl) ?_
            refine ri_if_ne h 45 d_Md_faultOf_18 (by decide) (fun c_18 => ?_) (fun c_18 => ?_)
            · first
              | (exfalso; first | exact absurd c_18 (by decide) | first | contradiction | omega)
              | (refine ri_iconstN h 0 d_Md_faultOf_45 rfl ?_
                 refine ri_istore h d_Md_faultOf_46 (Nat.le_of_ble_eq_true rfl) ?_
                 refine ri_iload h d_Md_faultOf_48 rfl ?_
                 first | refine ri_ifB_ne h 57 d_Md_faultOf_50 (by decide) (fun c_50 => ?_) (fun c_50 => ?_) | refine ri_ifN_ne h 57 d_Md_faultOf_50 (by decide) (by omega) (fun c_50 => ?_) (fun c_50 => ?_) | refine ri_if_ne h 57 d_Md_faultOf_50 (by decide) (fun c_50 => ?_) (fun c_50 => ?_)
                 · first
                   | (exfalso; first | exact absurd c_50 (by decide) | first | contradiction | omega)
                   | (refine ri_aload_n h d_Md_faultOf_57 rfl ?_
                      refine ri_get h d_Md_faultOf_58 fl_Md_23 (by first | assumption | exact hS.mo | exact gup_s) (by rfl) ?_
                      refine ri_iload_n h d_Md_faultOf_61 rfl ?_
                      refine ri_ialdE h _ d_Md_faultOf_62 (by first | assumption | exact hS.a7) (by first | rfl | assumption) (by first | assumption | omega) (by first | decide | omega) (by first | assumption | exact hm.i7 (by first | assumption | omega) | rfl) ?_
                      refine ri_bipushN h 24 d_Md_faultOf_63 rfl ?_
                      first | refine ri_icmpN_ne h 72 d_Md_faultOf_65 (by decide) (by omega) (by omega) (fun c_65 => ?_) (fun c_65 => ?_) | refine ri_icmp_ne h 72 d_Md_faultOf_65 (by decide) (fun c_65 => ?_) (fun c_65 => ?_)
                      · first
                        | (exfalso; first | exact absurd c_65 (by decide) | first | contradiction | omega)
                        | (omega)
                      · first
                        | (exfalso; first | exact absurd c_65 (by decide) | first | contradiction | omega)
                        | (refine ri_iconstN h 2 d_Md_faultOf_68 rfl ?_
                           refine ri_goto h 92 d_Md_faultOf_69 (by decide) ?_
                           refine ri_ireturn h d_Md_faultOf_92 (Nat.le_of_ble_eq_true rfl) (Nat.le_of_ble_eq_true rfl) ?_
                           exact ⟨rfl, rfl⟩))
                 · first
                   | (exfalso; first | exact absurd c_50 (by decide) | first | contradiction | omega)
                   | (refine ri_iconstN h 1 d_Md_faultOf_53 rfl ?_
                      refine ri_goto h 92 d_Md_faultOf_54 (by decide) ?_
                      refine ri_ireturn h d_Md_faultOf_92 (Nat.le_of_ble_eq_true rfl) (Nat.le_of_ble_eq_true rfl) ?_
                      exact ⟨rfl, rfl⟩))
            · first
              | (exfalso; first | exact absurd c_18 (by decide) | first | contradiction | omega)
              | (refine ri_aload_n h d_Md_faultOf_21 rfl ?_
                 refine ri_get h d_Md_faultOf_22 fl_Md_16 (by first | assumption | exact hS.mo | exact gup_s) (by rfl) ?_
                 refine ri_iload_n h d_Md_faultOf_25 rfl ?_
                 refine ri_laldE h _ d_Md_faultOf_26 (by first | assumption | exact hS.a5) (by first | rfl | assumption) (by first | assumption | omega) (by first | decide | omega) (by first | assumption | exact hm.i5 (by first | assumption | omega) | rfl) ?_
                 refine ri_lconst h 0 d_Md_faultOf_27 rfl ?_
                 refine ri_lcmp_le h 36 d_Md_faultOf_28 d_Md_faultOf_29 (by decide) (fun c_28 => ?_) (fun c_28 => ?_)
                 · first
                   | (exfalso; first | exact absurd c_28 (by decide) | first | contradiction | omega)
                   | (refine ri_iconstN h 0 d_Md_faultOf_36 rfl ?_
                      refine ri_iload_n h d_Md_faultOf_37 rfl ?_
                      first | refine ri_icmpN_ne h 45 d_Md_faultOf_38 (by decide) (by omega) (by omega) (fun c_38 => ?_) (fun c_38 => ?_) | refine ri_icmp_ne h 45 d_Md_faultOf_38 (by decide) (fun c_38 => ?_) (fun c_38 => ?_)
                      · first
                        | (exfalso; first | exact absurd c_38 (by decide) | first | contradiction | omega)
                        | (refine ri_iconstN h 0 d_Md_faultOf_45 rfl ?_
                           refine ri_istore h d_Md_faultOf_46 (Nat.le_of_ble_eq_true rfl) ?_
                           refine ri_iload h d_Md_faultOf_48 rfl ?_
                           first | refine ri_ifB_ne h 57 d_Md_faultOf_50 (by decide) (fun c_50 => ?_) (fun c_50 => ?_) | refine ri_ifN_ne h 57 d_Md_faultOf_50 (by decide) (by omega) (fun c_50 => ?_) (fun c_50 => ?_) | refine ri_if_ne h 57 d_Md_faultOf_50 (by decide) (fun c_50 => ?_) (fun c_50 => ?_)
                           · first
                             | (exfalso; first | exact absurd c_50 (by decide) | first | contradiction | omega)
                             | (refine ri_aload_n h d_Md_faultOf_57 rfl ?_
                                refine ri_get h d_Md_faultOf_58 fl_Md_23 (by first | assumption | exact hS.mo | exact gup_s) (by rfl) ?_
                                refine ri_iload_n h d_Md_faultOf_61 rfl ?_
                                refine ri_ialdE h _ d_Md_faultOf_62 (by first | assumption | exact hS.a7) (by first | rfl | assumption) (by first | assumption | omega) (by first | decide | omega) (by first | assumption | exact hm.i7 (by first | assumption | omega) | rfl) ?_
                                refine ri_bipushN h 24 d_Md_faultOf_63 rfl ?_
                                first | refine ri_icmpN_ne h 72 d_Md_faultOf_65 (by decide) (by omega) (by omega) (fun c_65 => ?_) (fun c_65 => ?_) | refine ri_icmp_ne h 72 d_Md_faultOf_65 (by decide) (fun c_65 => ?_) (fun c_65 => ?_)
                                · first
                                  | (exfalso; first | exact absurd c_65 (by decide) | first | contradiction | omega)
                                  | (omega)
                                · first
                                  | (exfalso; first | exact absurd c_65 (by decide) | first | contradiction | omega)
                                  | (refine ri_iconstN h 2 d_Md_faultOf_68 rfl ?_
                                     refine ri_goto h 92 d_Md_faultOf_69 (by decide) ?_
                                     refine ri_ireturn h d_Md_faultOf_92 (Nat.le_of_ble_eq_true rfl) (Nat.le_of_ble_eq_true rfl) ?_
                                     exact ⟨rfl, rfl⟩))
                           · first
                             | (exfalso; first | exact absurd c_50 (by decide) | first | contradiction | omega)
                             | (refine ri_iconstN h 1 d_Md_faultOf_53 rfl ?_
                                refine ri_goto h 92 d_Md_faultOf_54 (by decide) ?_
                                refine ri_ireturn h d_Md_faultOf_92 (Nat.le_of_ble_eq_true rfl) (Nat.le_of_ble_eq_true rfl) ?_
                                exact ⟨rfl, rfl⟩))
                      · first
                        | (exfalso; first | exact absurd c_38 (by decide) | first | contradiction | omega)
                        | (refine ri_iconstN h 1 d_Md_faultOf_41 rfl ?_
                           refine ri_goto h 46 d_Md_faultOf_42 (by decide) ?_
                           refine ri_istore h d_Md_faultOf_46 (Nat.le_of_ble_eq_true rfl) ?_
                           refine ri_iload h d_Md_faultOf_48 rfl ?_
                           first | refine ri_ifB_ne h 57 d_Md_faultOf_50 (by decide) (fun c_50 => ?_) (fun c_50 => ?_) | refine ri_ifN_ne h 57 d_Md_faultOf_50 (by decide) (by omega) (fun c_50 => ?_) (fun c_50 => ?_) | refine ri_if_ne h 57 d_Md_faultOf_50 (by decide) (fun c_50 => ?_) (fun c_50 => ?_)
                           · first
                             | (exfalso; first | exact absurd c_50 (by decide) | first | contradiction | omega)
                             | (refine ri_aload_n h d_Md_faultOf_57 rfl ?_
                                refine ri_get h d_Md_faultOf_58 fl_Md_23 (by first | assumption | exact hS.mo | exact gup_s) (by rfl) ?_
                                refine ri_iload_n h d_Md_faultOf_61 rfl ?_
                                refine ri_ialdE h _ d_Md_faultOf_62 (by first | assumption | exact hS.a7) (by first | rfl | assumption) (by first | assumption | omega) (by first | decide | omega) (by first | assumption | exact hm.i7 (by first | assumption | omega) | rfl) ?_
                                refine ri_bipushN h 24 d_Md_faultOf_63 rfl ?_
                                first | refine ri_icmpN_ne h 72 d_Md_faultOf_65 (by decide) (by omega) (by omega) (fun c_65 => ?_) (fun c_65 => ?_) | refine ri_icmp_ne h 72 d_Md_faultOf_65 (by decide) (fun c_65 => ?_) (fun c_65 => ?_)
                                · first
                                  | (exfalso; first | exact absurd c_65 (by decide) | first | contradiction | omega)
                                  | (omega)
                                · first
                                  | (exfalso; first | exact absurd c_65 (by decide) | first | contradiction | omega)
                                  | (refine ri_iconstN h 2 d_Md_faultOf_68 rfl ?_
                                     refine ri_goto h 92 d_Md_faultOf_69 (by decide) ?_
                                     refine ri_ireturn h d_Md_faultOf_92 (Nat.le_of_ble_eq_true rfl) (Nat.le_of_ble_eq_true rfl) ?_
                                     exact ⟨rfl, rfl⟩))
                           · first
                             | (exfalso; first | exact absurd c_50 (by decide) | first | contradiction | omega)
                             | (refine ri_iconstN h 1 d_Md_faultOf_53 rfl ?_
                                refine ri_goto h 92 d_Md_faultOf_54 (by decide) ?_
                                refine ri_ireturn h d_Md_faultOf_92 (Nat.le_of_ble_eq_true rfl) (Nat.le_of_ble_eq_true rfl) ?_
                                exact ⟨rfl, rfl⟩)))
                 · first
                   | (exfalso; first | exact absurd c_28 (by decide) | first | contradiction | omega)
                   | (refine ri_iconstN h 1 d_Md_faultOf_32 rfl ?_
                      refine ri_goto h 37 d_Md_faultOf_33 (by decide) ?_
                      refine ri_iload_n h d_Md_faultOf_37 rfl ?_
                      first | refine ri_icmpN_ne h 45 d_Md_faultOf_38 (by decide) (by omega) (by omega) (fun c_38 => ?_) (fun c_38 => ?_) | refine ri_icmp_ne h 45 d_Md_faultOf_38 (by decide) (fun c_38 => ?_) (fun c_38 => ?_)
                      · first
                        | (exfalso; first | exact absurd c_38 (by decide) | first | contradiction | omega)
                        | (refine ri_iconstN h 0 d_Md_faultOf_45 rfl ?_
                           refine ri_istore h d_Md_faultOf_46 (Nat.le_of_ble_eq_true rfl) ?_
                           refine ri_iload h d_Md_faultOf_48 rfl ?_
                           first | refine ri_ifB_ne h 57 d_Md_faultOf_50 (by decide) (fun c_50 => ?_) (fun c_50 => ?_) | refine ri_ifN_ne h 57 d_Md_faultOf_50 (by decide) (by omega) (fun c_50 => ?_) (fun c_50 => ?_) | refine ri_if_ne h 57 d_Md_faultOf_50 (by decide) (fun c_50 => ?_) (fun c_50 => ?_)
                           · first
                             | (exfalso; first | exact absurd c_50 (by decide) | first | contradiction | omega)
                             | (refine ri_aload_n h d_Md_faultOf_57 rfl ?_
                                refine ri_get h d_Md_faultOf_58 fl_Md_23 (by first | assumption | exact hS.mo | exact gup_s) (by rfl) ?_
                                refine ri_iload_n h d_Md_faultOf_61 rfl ?_
                                refine ri_ialdE h _ d_Md_faultOf_62 (by first | assumption | exact hS.a7) (by first | rfl | assumption) (by first | assumption | omega) (by first | decide | omega) (by first | assumption | exact hm.i7 (by first | assumption | omega) | rfl) ?_
                                refine ri_bipushN h 24 d_Md_faultOf_63 rfl ?_
                                first | refine ri_icmpN_ne h 72 d_Md_faultOf_65 (by decide) (by omega) (by omega) (fun c_65 => ?_) (fun c_65 => ?_) | refine ri_icmp_ne h 72 d_Md_faultOf_65 (by decide) (fun c_65 => ?_) (fun c_65 => ?_)
                                · first
                                  | (exfalso; first | exact absurd c_65 (by decide) | first | contradiction | omega)
                                  | (omega)
                                · first
                                  | (exfalso; first | exact absurd c_65 (by decide) | first | contradiction | omega)
                                  | (refine ri_iconstN h 2 d_Md_faultOf_68 rfl ?_
                                     refine ri_goto h 92 d_Md_faultOf_69 (by decide) ?_
                                     refine ri_ireturn h d_Md_faultOf_92 (Nat.le_of_ble_eq_true rfl) (Nat.le_of_ble_eq_true rfl) ?_
                                     exact ⟨rfl, rfl⟩))
                           · first
                             | (exfalso; first | exact absurd c_50 (by decide) | first | contradiction | omega)
                             | (refine ri_iconstN h 1 d_Md_faultOf_53 rfl ?_
                                refine ri_goto h 92 d_Md_faultOf_54 (by decide) ?_
                                refine ri_ireturn h d_Md_faultOf_92 (Nat.le_of_ble_eq_true rfl) (Nat.le_of_ble_eq_true rfl) ?_
                                exact ⟨rfl, rfl⟩))
                      · first
                        | (exfalso; first | exact absurd c_38 (by decide) | first | contradiction | omega)
                        | (refine ri_iconstN h 1 d_Md_faultOf_41 rfl ?_
                           refine ri_goto h 46 d_Md_faultOf_42 (by decide) ?_
                           refine ri_istore h d_Md_faultOf_46 (Nat.le_of_ble_eq_true rfl) ?_
                           refine ri_iload h d_Md_faultOf_48 rfl ?_
                           first | refine ri_ifB_ne h 57 d_Md_faultOf_50 (by decide) (fun c_50 => ?_) (fun c_50 => ?_) | refine ri_ifN_ne h 57 d_Md_faultOf_50 (by decide) (by omega) (fun c_50 => ?_) (fun c_50 => ?_) | refine ri_if_ne h 57 d_Md_faultOf_50 (by decide) (fun c_50 => ?_) (fun c_50 => ?_)
                           · first
                             | (exfalso; first | exact absurd c_50 (by decide) | first | contradiction | omega)
                             | (refine ri_aload_n h d_Md_faultOf_57 rfl ?_
                                refine ri_get h d_Md_faultOf_58 fl_Md_23 (by first | assumption | exact hS.mo | exact gup_s) (by rfl) ?_
                                refine ri_iload_n h d_Md_faultOf_61 rfl ?_
                                refine ri_ialdE h _ d_Md_faultOf_62 (by first | assumption | exact hS.a7) (by first | rfl | assumption) (by first | assumption | omega) (by first | decide | omega) (by first | assumption | exact hm.i7 (by first | assumption | omega) | rfl) ?_
                                refine ri_bipushN h 24 d_Md_faultOf_63 rfl ?_
                                first | refine ri_icmpN_ne h 72 d_Md_faultOf_65 (by decide) (by omega) (by omega) (fun c_65 => ?_) (fun c_65 => ?_) | refine ri_icmp_ne h 72 d_Md_faultOf_65 (by decide) (fun c_65 => ?_) (fun c_65 => ?_)
                                · first
                                  | (exfalso; first | exact absurd c_65 (by decide) | first | contradiction | omega)
                                  | (omega)
                                · first
                                  | (exfalso; first | exact absurd c_65 (by decide) | first | contradiction | omega)
                                  | (refine ri_iconstN h 2 d_Md_faultOf_68 rfl ?_
                                     refine ri_goto h 92 d_Md_faultOf_69 (by decide) ?_
                                     refine ri_ireturn h d_Md_faultOf_92 (Nat.le_of_ble_eq_true rfl) (Nat.le_of_ble_eq_true rfl) ?_
                                     exact ⟨rfl, rfl⟩))
                           · first
                             | (exfalso; first | exact absurd c_50 (by decide) | first | contradiction | omega)
                             | (refine ri_iconstN h 1 d_Md_faultOf_53 rfl ?_
                                refine ri_goto h 92 d_Md_faultOf_54 (by decide) ?_
                                refine ri_ireturn h d_Md_faultOf_92 (Nat.le_of_ble_eq_true rfl) (Nat.le_of_ble_eq_true rfl) ?_
                                exact ⟨rfl, rfl⟩))))))
theorem k_fault1_3 (h0 : g_0 l D s0) (hS : HS z ad Qc N M) (hm : MR Q N) (hW : WB Q) {s : Nat} (hs : s < Q.nS) (hd : (Q.sh s).drop = 0) (hp : spath (Q.sh s).w = 1) {x y : Int64} (hc : (Q.sh s).cnt < 24) (hn : ¬ (nearB x ∧ nearB y)) : Ct l D s0 y_Md_faultOf (Cond.code y_Md_faultOf b_Md_faultOf 8 (some .int)) (rk 1 0 0) [.ref (ad 30 0), .int (nI s), .int (nI 1), .long x, .long y] M (fR (some (.int (nI 3))) M) := by
  have hb1 := hW.2.1
  have hns := hm.ns
  have hw : 0 < (Q.sh s).w := by
    by_cases q : 0 < (Q.sh s).w
    · exact q
    · exact absurd hp (by simp [spath, q])
  have hw := Int64.not_le.mpr hw
  refine Ct.of h0 (by decide +kernel) rfl fun X hX h => ?_
  obtain ⟨p_, l', e_, R_, s_, m_, ar_, be_, me_, c_⟩ := X
  obtain rfl : l' = l := hX
  refine ri_iload_n h d_Md_faultOf_0 rfl ?_
  refine ri_ifM_lt h 45 d_Md_faultOf_1 (by decide) (by omega) (fun c_1 => ?_) (fun c_1 => ?_)
  · exact c_1.elim
  · first
    | (exfalso; first | exact absurd c_1 (by decide) | first | contradiction | omega)
    | (refine ri_iload_n h d_Md_faultOf_4 rfl ?_
       refine ri_aload_n h d_Md_faultOf_5 rfl ?_
       refine ri_get h d_Md_faultOf_6 fl_Md_118 (by first | assumption | exact hS.mo | exact gup_s) (by rfl) ?_
       first | refine ri_icmpN_ge h 45 d_Md_faultOf_9 (by decide) (by omega) (by omega) (fun c_9 => ?_) (fun c_9 => ?_) | refine ri_icmp_ge h 45 d_Md_faultOf_9 (by decide) (fun c_9 => ?_) (fun c_9 => ?_)
       · first
         | (exfalso; first | exact absurd c_9 (by decide) | first | contradiction | omega)
         | (refine ri_iconstN h 0 d_Md_faultOf_45 rfl ?_
            refine ri_istore h d_Md_faultOf_46 (Nat.le_of_ble_eq_true rfl) ?_
            refine ri_iload h d_Md_faultOf_48 rfl ?_
            first | refine ri_ifB_ne h 57 d_Md_faultOf_50 (by decide) (fun c_50 => ?_) (fun c_50 => ?_) | refine ri_ifN_ne h 57 d_Md_faultOf_50 (by decide) (by omega) (fun c_50 => ?_) (fun c_50 => ?_) | refine ri_if_ne h 57 d_Md_faultOf_50 (by decide) (fun c_50 => ?_) (fun c_50 => ?_)
            · first
              | (exfalso; first | exact absurd c_50 (by decide) | first | contradiction | omega)
              | (refine ri_aload_n h d_Md_faultOf_57 rfl ?_
                 refine ri_get h d_Md_faultOf_58 fl_Md_23 (by first | assumption | exact hS.mo | exact gup_s) (by rfl) ?_
                 refine ri_iload_n h d_Md_faultOf_61 rfl ?_
                 refine ri_ialdE h _ d_Md_faultOf_62 (by first | assumption | exact hS.a7) (by first | rfl | assumption) (by first | assumption | omega) (by first | decide | omega) (by first | assumption | exact hm.i7 (by first | assumption | omega) | rfl) ?_
                 refine ri_bipushN h 24 d_Md_faultOf_63 rfl ?_
                 first | refine ri_icmpN_ne h 72 d_Md_faultOf_65 (by decide) (by omega) (by omega) (fun c_65 => ?_) (fun c_65 => ?_) | refine ri_icmp_ne h 72 d_Md_faultOf_65 (by decide) (fun c_65 => ?_) (fun c_65 => ?_)
                 · first
                   | (exfalso; first | exact absurd c_65 (by decide) | first | contradiction | omega)
                   | (refine ri_lload_n h d_Md_faultOf_72 rfl ?_
                      refine ri_cSv_1 h d_Md_faultOf_73 cs_Md_136 (k_far h0) (Nat.le_of_ble_eq_true rfl) (Nat.le_of_ble_eq_true rfl) (Nat.le_of_ble_eq_true rfl) (Nat.le_of_ble_eq_true rfl) (Nat.le_of_ble_eq_true rfl) ?_
                      first | refine ri_ifB_ne h 87 d_Md_faultOf_76 (by decide) (fun c_76 => ?_) (fun c_76 => ?_) | refine ri_ifN_ne h 87 d_Md_faultOf_76 (by decide) (by omega) (fun c_76 => ?_) (fun c_76 => ?_) | refine ri_if_ne h 87 d_Md_faultOf_76 (by decide) (fun c_76 => ?_) (fun c_76 => ?_)
                      · first
                        | (exfalso; first | exact absurd c_76 (by decide) | first | contradiction | omega)
                        | (refine ri_iconstN h 3 d_Md_faultOf_87 rfl ?_
                           refine ri_goto h 92 d_Md_faultOf_88 (by decide) ?_
                           refine ri_ireturn h d_Md_faultOf_92 (Nat.le_of_ble_eq_true rfl) (Nat.le_of_ble_eq_true rfl) ?_
                           exact ⟨rfl, rfl⟩)
                      · first
                        | (exfalso; first | exact absurd c_76 (by decide) | first | contradiction | omega)
                        | (refine ri_lload h d_Md_faultOf_79 rfl ?_
                           refine ri_cSv_1 h d_Md_faultOf_81 cs_Md_136 (k_far h0) (Nat.le_of_ble_eq_true rfl) (Nat.le_of_ble_eq_true rfl) (Nat.le_of_ble_eq_true rfl) (Nat.le_of_ble_eq_true rfl) (Nat.le_of_ble_eq_true rfl) ?_
                           first | refine ri_ifB_eq h 91 d_Md_faultOf_84 (by decide) (fun c_84 => ?_) (fun c_84 => ?_) | refine ri_ifN_eq h 91 d_Md_faultOf_84 (by decide) (by omega) (fun c_84 => ?_) (fun c_84 => ?_) | refine ri_if_eq h 91 d_Md_faultOf_84 (by decide) (fun c_84 => ?_) (fun c_84 => ?_)
                           · first
                             | (exfalso; first | exact absurd c_84 (by decide) | first | contradiction | omega)
                             | (exact absurd ⟨Classical.byContradiction c_76, Classical.byContradiction c_84⟩ hn)
                           · first
                             | (exfalso; first | exact absurd c_84 (by decide) | first | contradiction | omega)
                             | (refine ri_iconstN h 3 d_Md_faultOf_87 rfl ?_
                                refine ri_goto h 92 d_Md_faultOf_88 (by decide) ?_
                                refine ri_ireturn h d_Md_faultOf_92 (Nat.le_of_ble_eq_true rfl) (Nat.le_of_ble_eq_true rfl) ?_
                                exact ⟨rfl, rfl⟩)))
                 · first
                   | (exfalso; first | exact absurd c_65 (by decide) | first | contradiction | omega)
                   | (refine ri_iconstN h 2 d_Md_faultOf_68 rfl ?_
                      refine ri_goto h 92 d_Md_faultOf_69 (by decide) ?_
                      refine ri_ireturn h d_Md_faultOf_92 (Nat.le_of_ble_eq_true rfl) (Nat.le_of_ble_eq_true rfl) ?_
                      exact ⟨rfl, rfl⟩))
            · first
              | (exfalso; first | exact absurd c_50 (by decide) | first | contradiction | omega)
              | (refine ri_iconstN h 1 d_Md_faultOf_53 rfl ?_
                 refine ri_goto h 92 d_Md_faultOf_54 (by decide) ?_
                 refine ri_ireturn h d_Md_faultOf_92 (Nat.le_of_ble_eq_true rfl) (Nat.le_of_ble_eq_true rfl) ?_
                 exact ⟨rfl, rfl⟩))
       · first
         | (exfalso; first | exact absurd c_9 (by decide) | first | contradiction | omega)
         | (refine ri_aload_n h d_Md_faultOf_12 rfl ?_
            refine ri_get h d_Md_faultOf_13 fl_Md_26 (by first | assumption | exact hS.mo | exact gup_s) (by rfl) ?_
            refine ri_iload_n h d_Md_faultOf_16 rfl ?_
            refine ri_zaldE h _ d_Md_faultOf_17 (by first | assumption | exact hS.a8) (by first | rfl | assumption) (by first | assumption | omega) (by first | decide | omega) (by first | assumption | exact hm.i8 (by first | assumption | omega) | rfl) ?_
            refine ri_if_ne h 45 d_Md_faultOf_18 (by decide) (fun c_18 => ?_) (fun c_18 => ?_)
            · first
              | (exfalso; first | exact absurd c_18 (by decide) | first | contradiction | omega)
              | (refine ri_iconstN h 0 d_Md_faultOf_45 rfl ?_
                 refine ri_istore h d_Md_faultOf_46 (Nat.le_of_ble_eq_true rfl) ?_
                 refine ri_iload h d_Md_faultOf_48 rfl ?_
                 first | refine ri_ifB_ne h 57 d_Md_faultOf_50 (by decide) (fun c_50 => ?_) (fun c_50 => ?_) | refine ri_ifN_ne h 57 d_Md_faultOf_50 (by decide) (by omega) (fun c_50 => ?_) (fun c_50 => ?_) | refine ri_if_ne h 57 d_Md_faultOf_50 (by decide) (fun c_50 => ?_) (fun c_50 => ?_)
                 · first
                   | (exfalso; first | exact absurd c_50 (by decide) | first | contradiction | omega)
                   | (refine ri_aload_n h d_Md_faultOf_57 rfl ?_
                      refine ri_get h d_Md_faultOf_58 fl_Md_23 (by first | assumption | exact hS.mo | exact gup_s) (by rfl) ?_
                      refine ri_iload_n h d_Md_faultOf_61 rfl ?_
                      refine ri_ialdE h _ d_Md_faultOf_62 (by first | assumption | exact hS.a7) (by first | rfl | assumption) (by first | assumption | omega) (by first | decide | omega) (by first | assumption | exact hm.i7 (by first | assumption | omega) | rfl) ?_
                      refine ri_bipushN h 24 d_Md_faultOf_63 rfl ?_
                      first | refine ri_icmpN_ne h 72 d_Md_faultOf_65 (by decide) (by omega) (by omega) (fun c_65 => ?_) (fun c_65 => ?_) | refine ri_icmp_ne h 72 d_Md_faultOf_65 (by decide) (fun c_65 => ?_) (fun c_65 => ?_)
                      · first
                        | (exfalso; first | exact absurd c_65 (by decide) | first | contradiction | omega)
                        | (refine ri_lload_n h d_Md_faultOf_72 rfl ?_
                           refine ri_cSv_1 h d_Md_faultOf_73 cs_Md_136 (k_far h0) (Nat.le_of_ble_eq_true rfl) (Nat.le_of_ble_eq_true rfl) (Nat.le_of_ble_eq_true rfl) (Nat.le_of_ble_eq_true rfl) (Nat.le_of_ble_eq_true rfl) ?_
                           first | refine ri_ifB_ne h 87 d_Md_faultOf_76 (by decide) (fun c_76 => ?_) (fun c_76 => ?_) | refine ri_ifN_ne h 87 d_Md_faultOf_76 (by decide) (by omega) (fun c_76 => ?_) (fun c_76 => ?_) | refine ri_if_ne h 87 d_Md_faultOf_76 (by decide) (fun c_76 => ?_) (fun c_76 => ?_)
                           · first
                             | (exfalso; first | exact absurd c_76 (by decide) | first | contradiction | omega)
                             | (refine ri_iconstN h 3 d_Md_faultOf_87 rfl ?_
                                refine ri_goto h 92 d_Md_faultOf_88 (by decide) ?_
                                refine ri_ireturn h d_Md_faultOf_92 (Nat.le_of_ble_eq_true rfl) (Nat.le_of_ble_eq_true rfl) ?_
                                exact ⟨rfl, rfl⟩)
                           · first
                             | (exfalso; first | exact absurd c_76 (by decide) | first | contradiction | omega)
                             | (refine ri_lload h d_Md_faultOf_79 rfl ?_
                                refine ri_cSv_1 h d_Md_faultOf_81 cs_Md_136 (k_far h0) (Nat.le_of_ble_eq_true rfl) (Nat.le_of_ble_eq_true rfl) (Nat.le_of_ble_eq_true rfl) (Nat.le_of_ble_eq_true rfl) (Nat.le_of_ble_eq_true rfl) ?_
                                first | refine ri_ifB_eq h 91 d_Md_faultOf_84 (by decide) (fun c_84 => ?_) (fun c_84 => ?_) | refine ri_ifN_eq h 91 d_Md_faultOf_84 (by decide) (by omega) (fun c_84 => ?_) (fun c_84 => ?_) | refine ri_if_eq h 91 d_Md_faultOf_84 (by decide) (fun c_84 => ?_) (fun c_84 => ?_)
                                · first
                                  | (exfalso; first | exact absurd c_84 (by decide) | first | contradiction | omega)
                                  | (exact absurd ⟨Classical.byContradiction c_76, Classical.byContradiction c_84⟩ hn)
                                · first
                                  | (exfalso; first | exact absurd c_84 (by decide) | first | contradiction | omega)
                                  | (refine ri_iconstN h 3 d_Md_faultOf_87 rfl ?_
                                     refine ri_goto h 92 d_Md_faultOf_88 (by decide) ?_
                                     refine ri_ireturn h d_Md_faultOf_92 (Nat.le_of_ble_eq_true rfl) (Nat.le_of_ble_eq_true rfl) ?_
                                     exact ⟨rfl, rfl⟩)))
                      · first
                        | (exfalso; first | exact absurd c_65 (by decide) | first | contradiction | omega)
                        | (refine ri_iconstN h 2 d_Md_faultOf_68 rfl ?_
                           refine ri_goto h 92 d_Md_faultOf_69 (by decide) ?_
                           refine ri_ireturn h d_Md_faultOf_92 (Nat.le_of_ble_eq_true rfl) (Nat.le_of_ble_eq_true rfl) ?_
                           exact ⟨rfl, rfl⟩))
                 · first
                   | (exfalso; first | exact absurd c_50 (by decide) | first | contradiction | omega)
                   | (refine ri_iconstN h 1 d_Md_faultOf_53 rfl ?_
                      refine ri_goto h 92 d_Md_faultOf_54 (by decide) ?_
                      refine ri_ireturn h d_Md_faultOf_92 (Nat.le_of_ble_eq_true rfl) (Nat.le_of_ble_eq_true rfl) ?_
                      exact ⟨rfl, rfl⟩))
            · first
              | (exfalso; first | exact absurd c_18 (by decide) | first | contradiction | omega)
              | (refine ri_aload_n h d_Md_faultOf_21 rfl ?_
                 refine ri_get h d_Md_faultOf_22 fl_Md_16 (by first | assumption | exact hS.mo | exact gup_s) (by rfl) ?_
                 refine ri_iload_n h d_Md_faultOf_25 rfl ?_
                 refine ri_laldE h _ d_Md_faultOf_26 (by first | assumption | exact hS.a5) (by first | rfl | assumption) (by first | assumption | omega) (by first | decide | omega) (by first | assumption | exact hm.i5 (by first | assumption | omega) | rfl) ?_
                 refine ri_lconst h 0 d_Md_faultOf_27 rfl ?_
                 refine ri_lcmp_le h 36 d_Md_faultOf_28 d_Md_faultOf_29 (by decide) (fun c_28 => ?_) (fun c_28 => ?_)
                 · first
                   | (exfalso; first | exact absurd c_28 (by decide) | first | contradiction | omega)
                   | (refine ri_iconstN h 0 d_Md_faultOf_36 rfl ?_
                      refine ri_iload_n h d_Md_faultOf_37 rfl ?_
                      first | refine ri_icmpN_ne h 45 d_Md_faultOf_38 (by decide) (by omega) (by omega) (fun c_38 => ?_) (fun c_38 => ?_) | refine ri_icmp_ne h 45 d_Md_faultOf_38 (by decide) (fun c_38 => ?_) (fun c_38 => ?_)
                      · first
                        | (exfalso; first | exact absurd c_38 (by decide) | first | contradiction | omega)
                        | (refine ri_iconstN h 0 d_Md_faultOf_45 rfl ?_
                           refine ri_istore h d_Md_faultOf_46 (Nat.le_of_ble_eq_true rfl) ?_
                           refine ri_iload h d_Md_faultOf_48 rfl ?_
                           first | refine ri_ifB_ne h 57 d_Md_faultOf_50 (by decide) (fun c_50 => ?_) (fun c_50 => ?_) | refine ri_ifN_ne h 57 d_Md_faultOf_50 (by decide) (by omega) (fun c_50 => ?_) (fun c_50 => ?_) | refine ri_if_ne h 57 d_Md_faultOf_50 (by decide) (fun c_50 => ?_) (fun c_50 => ?_)
                           · first
                             | (exfalso; first | exact absurd c_50 (by decide) | first | contradiction | omega)
                             | (refine ri_aload_n h d_Md_faultOf_57 rfl ?_
                                refine ri_get h d_Md_faultOf_58 fl_Md_23 (by first | assumption | exact hS.mo | exact gup_s) (by rfl) ?_
                                refine ri_iload_n h d_Md_faultOf_61 rfl ?_
                                refine ri_ialdE h _ d_Md_faultOf_62 (by first | assumption | exact hS.a7) (by first | rfl | assumption) (by first | assumption | omega) (by first | decide | omega) (by first | assumption | exact hm.i7 (by first | assumption | omega) | rfl) ?_
                                refine ri_bipushN h 24 d_Md_faultOf_63 rfl ?_
                                first | refine ri_icmpN_ne h 72 d_Md_faultOf_65 (by decide) (by omega) (by omega) (fun c_65 => ?_) (fun c_65 => ?_) | refine ri_icmp_ne h 72 d_Md_faultOf_65 (by decide) (fun c_65 => ?_) (fun c_65 => ?_)
                                · first
                                  | (exfalso; first | exact absurd c_65 (by decide) | first | contradiction | omega)
                                  | (refine ri_lload_n h d_Md_faultOf_72 rfl ?_
                                     refine ri_cSv_1 h d_Md_faultOf_73 cs_Md_136 (k_far h0) (Nat.le_of_ble_eq_true rfl) (Nat.le_of_ble_eq_true rfl) (Nat.le_of_ble_eq_true rfl) (Nat.le_of_ble_eq_true rfl) (Nat.le_of_ble_eq_true rfl) ?_
                                     first | refine ri_ifB_ne h 87 d_Md_faultOf_76 (by decide) (fun c_76 => ?_) (fun c_76 => ?_) | refine ri_ifN_ne h 87 d_Md_faultOf_76 (by decide) (by omega) (fun c_76 => ?_) (fun c_76 => ?_) | refine ri_if_ne h 87 d_Md_faultOf_76 (by decide) (fun c_76 => ?_) (fun c_76 => ?_)
                                     · first
                                       | (exfalso; first | exact absurd c_76 (by decide) | first | contradiction | omega)
                                       | (refine ri_iconstN h 3 d_Md_faultOf_87 rfl ?_
                                          refine ri_goto h 92 d_Md_faultOf_88 (by decide) ?_
                                          refine ri_ireturn h d_Md_faultOf_92 (Nat.le_of_ble_eq_true rfl) (Nat.le_of_ble_eq_true rfl) ?_
                                          exact ⟨rfl, rfl⟩)
                                     · first
                                       | (exfalso; first | exact absurd c_76 (by decide) | first | contradiction | omega)
                                       | (refine ri_lload h d_Md_faultOf_79 rfl ?_
                                          refine ri_cSv_1 h d_Md_faultOf_81 cs_Md_136 (k_far h0) (Nat.le_of_ble_eq_true rfl) (Nat.le_of_ble_eq_true rfl) (Nat.le_of_ble_eq_true rfl) (Nat.le_of_ble_eq_true rfl) (Nat.le_of_ble_eq_true rfl) ?_
                                          first | refine ri_ifB_eq h 91 d_Md_faultOf_84 (by decide) (fun c_84 => ?_) (fun c_84 => ?_) | refine ri_ifN_eq h 91 d_Md_faultOf_84 (by decide) (by omega) (fun c_84 => ?_) (fun c_84 => ?_) | refine ri_if_eq h 91 d_Md_faultOf_84 (by decide) (fun c_84 => ?_) (fun c_84 => ?_)
                                          · first
                                            | (exfalso; first | exact absurd c_84 (by decide) | first | contradiction | omega)
                                            | (exact absurd ⟨Classical.byContradiction c_76, Classical.byContradiction c_84⟩ hn)
                                          · first
                                            | (exfalso; first | exact absurd c_84 (by decide) | first | contradiction | omega)
                                            | (refine ri_iconstN h 3 d_Md_faultOf_87 rfl ?_
                                               refine ri_goto h 92 d_Md_faultOf_88 (by decide) ?_
                                               refine ri_ireturn h d_Md_faultOf_92 (Nat.le_of_ble_eq_true rfl) (Nat.le_of_ble_eq_true rfl) ?_
                                               exact ⟨rfl, rfl⟩)))
                                · first
                                  | (exfalso; first | exact absurd c_65 (by decide) | first | contradiction | omega)
                                  | (refine ri_iconstN h 2 d_Md_faultOf_68 rfl ?_
                                     refine ri_goto h 92 d_Md_faultOf_69 (by decide) ?_
                                     refine ri_ireturn h d_Md_faultOf_92 (Nat.le_of_ble_eq_true rfl) (Nat.le_of_ble_eq_true rfl) ?_
                                     exact ⟨rfl, rfl⟩))
                           · first
                             | (exfalso; first | exact absurd c_50 (by decide) | first | contradiction | omega)
                             | (refine ri_iconstN h 1 d_Md_faultOf_53 rfl ?_
                                refine ri_goto h 92 d_Md_faultOf_54 (by decide) ?_
                                refine ri_ireturn h d_Md_faultOf_92 (Nat.le_of_ble_eq_true rfl) (Nat.le_of_ble_eq_true rfl) ?_
                                exact ⟨rfl, rfl⟩))
                      · first
                        | (exfalso; first | exact absurd c_38 (by decide) | first | contradiction | omega)
                        | (refine ri_iconstN h 1 d_Md_faultOf_41 rfl ?_
                           refine ri_goto h 46 d_Md_faultOf_42 (by decide) ?_
                           refine ri_istore h d_Md_faultOf_46 (Nat.le_of_ble_eq_true rfl) ?_
                           refine ri_iload h d_Md_faultOf_48 rfl ?_
                           first | refine ri_ifB_ne h 57 d_Md_faultOf_50 (by decide) (fun c_50 => ?_) (fun c_50 => ?_) | refine ri_ifN_ne h 57 d_Md_faultOf_50 (by decide) (by omega) (fun c_50 => ?_) (fun c_50 => ?_) | refine ri_if_ne h 57 d_Md_faultOf_50 (by decide) (fun c_50 => ?_) (fun c_50 => ?_)
                           · first
                             | (exfalso; first | exact absurd c_50 (by decide) | first | contradiction | omega)
                             | (refine ri_aload_n h d_Md_faultOf_57 rfl ?_
                                refine ri_get h d_Md_faultOf_58 fl_Md_23 (by first | assumption | exact hS.mo | exact gup_s) (by rfl) ?_
                                refine ri_iload_n h d_Md_faultOf_61 rfl ?_
                                refine ri_ialdE h _ d_Md_faultOf_62 (by first | assumption | exact hS.a7) (by first | rfl | assumption) (by first | assumption | omega) (by first | decide | omega) (by first | assumption | exact hm.i7 (by first | assumption | omega) | rfl) ?_
                                refine ri_bipushN h 24 d_Md_faultOf_63 rfl ?_
                                first | refine ri_icmpN_ne h 72 d_Md_faultOf_65 (by decide) (by omega) (by omega) (fun c_65 => ?_) (fun c_65 => ?_) | refine ri_icmp_ne h 72 d_Md_faultOf_65 (by decide) (fun c_65 => ?_) (fun c_65 => ?_)
                                · first
                                  | (exfalso; first | exact absurd c_65 (by decide) | first | contradiction | omega)
                                  | (refine ri_lload_n h d_Md_faultOf_72 rfl ?_
                                     refine ri_cSv_1 h d_Md_faultOf_73 cs_Md_136 (k_far h0) (Nat.le_of_ble_eq_true rfl) (Nat.le_of_ble_eq_true rfl) (Nat.le_of_ble_eq_true rfl) (Nat.le_of_ble_eq_true rfl) (Nat.le_of_ble_eq_true rfl) ?_
                                     first | refine ri_ifB_ne h 87 d_Md_faultOf_76 (by decide) (fun c_76 => ?_) (fun c_76 => ?_) | refine ri_ifN_ne h 87 d_Md_faultOf_76 (by decide) (by omega) (fun c_76 => ?_) (fun c_76 => ?_) | refine ri_if_ne h 87 d_Md_faultOf_76 (by decide) (fun c_76 => ?_) (fun c_76 => ?_)
                                     · first
                                       | (exfalso; first | exact absurd c_76 (by decide) | first | contradiction | omega)
                                       | (refine ri_iconstN h 3 d_Md_faultOf_87 rfl ?_
                                          refine ri_goto h 92 d_Md_faultOf_88 (by decide) ?_
                                          refine ri_ireturn h d_Md_faultOf_92 (Nat.le_of_ble_eq_true rfl) (Nat.le_of_ble_eq_true rfl) ?_
                                          exact ⟨rfl, rfl⟩)
                                     · first
                                       | (exfalso; first | exact absurd c_76 (by decide) | first | contradiction | omega)
                                       | (refine ri_lload h d_Md_faultOf_79 rfl ?_
                                          refine ri_cSv_1 h d_Md_faultOf_81 cs_Md_136 (k_far h0) (Nat.le_of_ble_eq_true rfl) (Nat.le_of_ble_eq_true rfl) (Nat.le_of_ble_eq_true rfl) (Nat.le_of_ble_eq_true rfl) (Nat.le_of_ble_eq_true rfl) ?_
                                          first | refine ri_ifB_eq h 91 d_Md_faultOf_84 (by decide) (fun c_84 => ?_) (fun c_84 => ?_) | refine ri_ifN_eq h 91 d_Md_faultOf_84 (by decide) (by omega) (fun c_84 => ?_) (fun c_84 => ?_) | refine ri_if_eq h 91 d_Md_faultOf_84 (by decide) (fun c_84 => ?_) (fun c_84 => ?_)
                                          · first
                                            | (exfalso; first | exact absurd c_84 (by decide) | first | contradiction | omega)
                                            | (exact absurd ⟨Classical.byContradiction c_76, Classical.byContradiction c_84⟩ hn)
                                          · first
                                            | (exfalso; first | exact absurd c_84 (by decide) | first | contradiction | omega)
                                            | (refine ri_iconstN h 3 d_Md_faultOf_87 rfl ?_
                                               refine ri_goto h 92 d_Md_faultOf_88 (by decide) ?_
                                               refine ri_ireturn h d_Md_faultOf_92 (Nat.le_of_ble_eq_true rfl) (Nat.le_of_ble_eq_true rfl) ?_
                                               exact ⟨rfl, rfl⟩)))
                                · first
                                  | (exfalso; first | exact absurd c_65 (by decide) | first | contradiction | omega)
                                  | (refine ri_iconstN h 2 d_Md_faultOf_68 rfl ?_
                                     refine ri_goto h 92 d_Md_faultOf_69 (by decide) ?_
                                     refine ri_ireturn h d_Md_faultOf_92 (Nat.le_of_ble_eq_true rfl) (Nat.le_of_ble_eq_true rfl) ?_
                                     exact ⟨rfl, rfl⟩))
                           · first
                             | (exfalso; first | exact absurd c_50 (by decide) | first | contradiction | omega)
                             | (refine ri_iconstN h 1 d_Md_faultOf_53 rfl ?_
                                refine ri_goto h 92 d_Md_faultOf_54 (by decide) ?_
                                refine ri_ireturn h d_Md_faultOf_92 (Nat.le_of_ble_eq_true rfl) (Nat.le_of_ble_eq_true rfl) ?_
                                exact ⟨rfl, rfl⟩)))
                 · first
                   | (exfalso; first | exact absurd c_28 (by decide) | first | contradiction | omega)
                   | (refine ri_iconstN h 1 d_Md_faultOf_32 rfl ?_
                      refine ri_goto h 37 d_Md_faultOf_33 (by decide) ?_
                      refine ri_iload_n h d_Md_faultOf_37 rfl ?_
                      first | refine ri_icmpN_ne h 45 d_Md_faultOf_38 (by decide) (by omega) (by omega) (fun c_38 => ?_) (fun c_38 => ?_) | refine ri_icmp_ne h 45 d_Md_faultOf_38 (by decide) (fun c_38 => ?_) (fun c_38 => ?_)
                      · first
                        | (exfalso; first | exact absurd c_38 (by decide) | first | contradiction | omega)
                        | (refine ri_iconstN h 0 d_Md_faultOf_45 rfl ?_
                           refine ri_istore h d_Md_faultOf_46 (Nat.le_of_ble_eq_true rfl) ?_
                           refine ri_iload h d_Md_faultOf_48 rfl ?_
                           first | refine ri_ifB_ne h 57 d_Md_faultOf_50 (by decide) (fun c_50 => ?_) (fun c_50 => ?_) | refine ri_ifN_ne h 57 d_Md_faultOf_50 (by decide) (by omega) (fun c_50 => ?_) (fun c_50 => ?_) | refine ri_if_ne h 57 d_Md_faultOf_50 (by decide) (fun c_50 => ?_) (fun c_50 => ?_)
                           · first
                             | (exfalso; first | exact absurd c_50 (by decide) | first | contradiction | omega)
                             | (refine ri_aload_n h d_Md_faultOf_57 rfl ?_
                                refine ri_get h d_Md_faultOf_58 fl_Md_23 (by first | assumption | exact hS.mo | exact gup_s) (by rfl) ?_
                                refine ri_iload_n h d_Md_faultOf_61 rfl ?_
                                refine ri_ialdE h _ d_Md_faultOf_62 (by first | assumption | exact hS.a7) (by first | rfl | assumption) (by first | assumption | omega) (by first | decide | omega) (by first | assumption | exact hm.i7 (by first | assumption | omega) | rfl) ?_
                                refine ri_bipushN h 24 d_Md_faultOf_63 rfl ?_
                                first | refine ri_icmpN_ne h 72 d_Md_faultOf_65 (by decide) (by omega) (by omega) (fun c_65 => ?_) (fun c_65 => ?_) | refine ri_icmp_ne h 72 d_Md_faultOf_65 (by decide) (fun c_65 => ?_) (fun c_65 => ?_)
                                · first
                                  | (exfalso; first | exact absurd c_65 (by decide) | first | contradiction | omega)
                                  | (refine ri_lload_n h d_Md_faultOf_72 rfl ?_
                                     refine ri_cSv_1 h d_Md_faultOf_73 cs_Md_136 (k_far h0) (Nat.le_of_ble_eq_true rfl) (Nat.le_of_ble_eq_true rfl) (Nat.le_of_ble_eq_true rfl) (Nat.le_of_ble_eq_true rfl) (Nat.le_of_ble_eq_true rfl) ?_
                                     first | refine ri_ifB_ne h 87 d_Md_faultOf_76 (by decide) (fun c_76 => ?_) (fun c_76 => ?_) | refine ri_ifN_ne h 87 d_Md_faultOf_76 (by decide) (by omega) (fun c_76 => ?_) (fun c_76 => ?_) | refine ri_if_ne h 87 d_Md_faultOf_76 (by decide) (fun c_76 => ?_) (fun c_76 => ?_)
                                     · first
                                       | (exfalso; first | exact absurd c_76 (by decide) | first | contradiction | omega)
                                       | (refine ri_iconstN h 3 d_Md_faultOf_87 rfl ?_
                                          refine ri_goto h 92 d_Md_faultOf_88 (by decide) ?_
                                          refine ri_ireturn h d_Md_faultOf_92 (Nat.le_of_ble_eq_true rfl) (Nat.le_of_ble_eq_true rfl) ?_
                                          exact ⟨rfl, rfl⟩)
                                     · first
                                       | (exfalso; first | exact absurd c_76 (by decide) | first | contradiction | omega)
                                       | (refine ri_lload h d_Md_faultOf_79 rfl ?_
                                          refine ri_cSv_1 h d_Md_faultOf_81 cs_Md_136 (k_far h0) (Nat.le_of_ble_eq_true rfl) (Nat.le_of_ble_eq_true rfl) (Nat.le_of_ble_eq_true rfl) (Nat.le_of_ble_eq_true rfl) (Nat.le_of_ble_eq_true rfl) ?_
                                          first | refine ri_ifB_eq h 91 d_Md_faultOf_84 (by decide) (fun c_84 => ?_) (fun c_84 => ?_) | refine ri_ifN_eq h 91 d_Md_faultOf_84 (by decide) (by omega) (fun c_84 => ?_) (fun c_84 => ?_) | refine ri_if_eq h 91 d_Md_faultOf_84 (by decide) (fun c_84 => ?_) (fun c_84 => ?_)
                                          · first
                                            | (exfalso; first | exact absurd c_84 (by decide) | first | contradiction | omega)
                                            | (exact absurd ⟨Classical.byContradiction c_76, Classical.byContradiction c_84⟩ hn)
                                          · first
                                            | (exfalso; first | exact absurd c_84 (by decide) | first | contradiction | omega)
                                            | (refine ri_iconstN h 3 d_Md_faultOf_87 rfl ?_
                                               refine ri_goto h 92 d_Md_faultOf_88 (by decide) ?_
                                               refine ri_ireturn h d_Md_faultOf_92 (Nat.le_of_ble_eq_true rfl) (Nat.le_of_ble_eq_true rfl) ?_
                                               exact ⟨rfl, rfl⟩)))
                                · first
                                  | (exfalso; first | exact absurd c_65 (by decide) | first | contradiction | omega)
                                  | (refine ri_iconstN h 2 d_Md_faultOf_68 rfl ?_
                                     refine ri_goto h 92 d_Md_faultOf_69 (by decide) ?_
                                     refine ri_ireturn h d_Md_faultOf_92 (Nat.le_of_ble_eq_true rfl) (Nat.le_of_ble_eq_true rfl) ?_
                                     exact ⟨rfl, rfl⟩))
                           · first
                             | (exfalso; first | exact absurd c_50 (by decide) | first | contradiction | omega)
                             | (refine ri_iconstN h 1 d_Md_faultOf_53 rfl ?_
                                refine ri_goto h 92 d_Md_faultOf_54 (by decide) ?_
                                refine ri_ireturn h d_Md_faultOf_92 (Nat.le_of_ble_eq_true rfl) (Nat.le_of_ble_eq_true rfl) ?_
                                exact ⟨rfl, rfl⟩))
                      · first
                        | (exfalso; first | exact absurd c_38 (by decide) | first | contradiction | omega)
                        | (refine ri_iconstN h 1 d_Md_faultOf_41 rfl ?_
                           refine ri_goto h 46 d_Md_faultOf_42 (by decide) ?_
                           refine ri_istore h d_Md_faultOf_46 (Nat.le_of_ble_eq_true rfl) ?_
                           refine ri_iload h d_Md_faultOf_48 rfl ?_
                           first | refine ri_ifB_ne h 57 d_Md_faultOf_50 (by decide) (fun c_50 => ?_) (fun c_50 => ?_) | refine ri_ifN_ne h 57 d_Md_faultOf_50 (by decide) (by omega) (fun c_50 => ?_) (fun c_50 => ?_) | refine ri_if_ne h 57 d_Md_faultOf_50 (by decide) (fun c_50 => ?_) (fun c_50 => ?_)
                           · first
                             | (exfalso; first | exact absurd c_50 (by decide) | first | contradiction | omega)
                             | (refine ri_aload_n h d_Md_faultOf_57 rfl ?_
                                refine ri_get h d_Md_faultOf_58 fl_Md_23 (by first | assumption | exact hS.mo | exact gup_s) (by rfl) ?_
                                refine ri_iload_n h d_Md_faultOf_61 rfl ?_
                                refine ri_ialdE h _ d_Md_faultOf_62 (by first | assumption | exact hS.a7) (by first | rfl | assumption) (by first | assumption | omega) (by first | decide | omega) (by first | assumption | exact hm.i7 (by first | assumption | omega) | rfl) ?_
                                refine ri_bipushN h 24 d_Md_faultOf_63 rfl ?_
                                first | refine ri_icmpN_ne h 72 d_Md_faultOf_65 (by decide) (by omega) (by omega) (fun c_65 => ?_) (fun c_65 => ?_) | refine ri_icmp_ne h 72 d_Md_faultOf_65 (by decide) (fun c_65 => ?_) (fun c_65 => ?_)
                                · first
                                  | (exfalso; first | exact absurd c_65 (by decide) | first | contradiction | omega)
                                  | (refine ri_lload_n h d_Md_faultOf_72 rfl ?_
                                     refine ri_cSv_1 h d_Md_faultOf_73 cs_Md_136 (k_far h0) (Nat.le_of_ble_eq_true rfl) (Nat.le_of_ble_eq_true rfl) (Nat.le_of_ble_eq_true rfl) (Nat.le_of_ble_eq_true rfl) (Nat.le_of_ble_eq_true rfl) ?_
                                     first | refine ri_ifB_ne h 87 d_Md_faultOf_76 (by decide) (fun c_76 => ?_) (fun c_76 => ?_) | refine ri_ifN_ne h 87 d_Md_faultOf_76 (by decide) (by omega) (fun c_76 => ?_) (fun c_76 => ?_) | refine ri_if_ne h 87 d_Md_faultOf_76 (by decide) (fun c_76 => ?_) (fun c_76 => ?_)
                                     · first
                                       | (exfalso; first | exact absurd c_76 (by decide) | first | contradiction | omega)
                                       | (refine ri_iconstN h 3 d_Md_faultOf_87 rfl ?_
                                          refine ri_goto h 92 d_Md_faultOf_88 (by decide) ?_
                                          refine ri_ireturn h d_Md_faultOf_92 (Nat.le_of_ble_eq_true rfl) (Nat.le_of_ble_eq_true rfl) ?_
                                          exact ⟨rfl, rfl⟩)
                                     · first
                                       | (exfalso; first | exact absurd c_76 (by decide) | first | contradiction | omega)
                                       | (refine ri_lload h d_Md_faultOf_79 rfl ?_
                                          refine ri_cSv_1 h d_Md_faultOf_81 cs_Md_136 (k_far h0) (Nat.le_of_ble_eq_true rfl) (Nat.le_of_ble_eq_true rfl) (Nat.le_of_ble_eq_true rfl) (Nat.le_of_ble_eq_true rfl) (Nat.le_of_ble_eq_true rfl) ?_
                                          first | refine ri_ifB_eq h 91 d_Md_faultOf_84 (by decide) (fun c_84 => ?_) (fun c_84 => ?_) | refine ri_ifN_eq h 91 d_Md_faultOf_84 (by decide) (by omega) (fun c_84 => ?_) (fun c_84 => ?_) | refine ri_if_eq h 91 d_Md_faultOf_84 (by decide) (fun c_84 => ?_) (fun c_84 => ?_)
                                          · first
                                            | (exfalso; first | exact absurd c_84 (by decide) | first | contradiction | omega)
                                            | (exact absurd ⟨Classical.byContradiction c_76, Classical.byContradiction c_84⟩ hn)
                                          · first
                                            | (exfalso; first | exact absurd c_84 (by decide) | first | contradiction | omega)
                                            | (refine ri_iconstN h 3 d_Md_faultOf_87 rfl ?_
                                               refine ri_goto h 92 d_Md_faultOf_88 (by decide) ?_
                                               refine ri_ireturn h d_Md_faultOf_92 (Nat.le_of_ble_eq_true rfl) (Nat.le_of_ble_eq_true rfl) ?_
                                               exact ⟨rfl, rfl⟩)))
                                · first
                                  | (exfalso; first | exact absurd c_65 (by decide) | first | contradiction | omega)
                                  | (refine ri_iconstN h 2 d_Md_faultOf_68 rfl ?_
                                     refine ri_goto h 92 d_Md_faultOf_69 (by decide) ?_
                                     refine ri_ireturn h d_Md_faultOf_92 (Nat.le_of_ble_eq_true rfl) (Nat.le_of_ble_eq_true rfl) ?_
                                     exact ⟨rfl, rfl⟩))
                           · first
                             | (exfalso; first | exact absurd c_50 (by decide) | first | contradiction | omega)
                             | (refine ri_iconstN h 1 d_Md_faultOf_53 rfl ?_
                                refine ri_goto h 92 d_Md_faultOf_54 (by decide) ?_
                                refine ri_ireturn h d_Md_faultOf_92 (Nat.le_of_ble_eq_true rfl) (Nat.le_of_ble_eq_true rfl) ?_
                                exact ⟨rfl, rfl⟩))))))
theorem k_fault1_0 (h0 : g_0 l D s0) (hS : HS z ad Qc N M) (hm : MR Q N) (hW : WB Q) {s : Nat} (hs : s < Q.nS) (hd : (Q.sh s).drop = 0) (hp : spath (Q.sh s).w = 1) {x y : Int64} (hc : (Q.sh s).cnt < 24) (hx : nearB x) (hy : nearB y) : Ct l D s0 y_Md_faultOf (Cond.code y_Md_faultOf b_Md_faultOf 8 (some .int)) (rk 1 0 0) [.ref (ad 30 0), .int (nI s), .int (nI 1), .long x, .long y] M (fR (some (.int (nI 0))) M) := by
  have hb1 := hW.2.1
  have hns := hm.ns
  have hw : 0 < (Q.sh s).w := by
    by_cases q : 0 < (Q.sh s).w
    · exact q
    · exact absurd hp (by simp [spath, q])
  have hw := Int64.not_le.mpr hw
  refine Ct.of h0 (by decide +kernel) rfl fun X hX h => ?_
  obtain ⟨p_, l', e_, R_, s_, m_, ar_, be_, me_, c_⟩ := X
  obtain rfl : l' = l := hX
  refine ri_iload_n h d_Md_faultOf_0 rfl ?_
  refine ri_ifM_lt h 45 d_Md_faultOf_1 (by decide) (by omega) (fun c_1 => ?_) (fun c_1 => ?_)
  · exact c_1.elim
  · first
    | (exfalso; first | exact absurd c_1 (by decide) | first | contradiction | omega)
    | (refine ri_iload_n h d_Md_faultOf_4 rfl ?_
       refine ri_aload_n h d_Md_faultOf_5 rfl ?_
       refine ri_get h d_Md_faultOf_6 fl_Md_118 (by first | assumption | exact hS.mo | exact gup_s) (by rfl) ?_
       first | refine ri_icmpN_ge h 45 d_Md_faultOf_9 (by decide) (by omega) (by omega) (fun c_9 => ?_) (fun c_9 => ?_) | refine ri_icmp_ge h 45 d_Md_faultOf_9 (by decide) (fun c_9 => ?_) (fun c_9 => ?_)
       · first
         | (exfalso; first | exact absurd c_9 (by decide) | first | contradiction | omega)
         | (refine ri_iconstN h 0 d_Md_faultOf_45 rfl ?_
            refine ri_istore h d_Md_faultOf_46 (Nat.le_of_ble_eq_true rfl) ?_
            refine ri_iload h d_Md_faultOf_48 rfl ?_
            first | refine ri_ifB_ne h 57 d_Md_faultOf_50 (by decide) (fun c_50 => ?_) (fun c_50 => ?_) | refine ri_ifN_ne h 57 d_Md_faultOf_50 (by decide) (by omega) (fun c_50 => ?_) (fun c_50 => ?_) | refine ri_if_ne h 57 d_Md_faultOf_50 (by decide) (fun c_50 => ?_) (fun c_50 => ?_)
            · first
              | (exfalso; first | exact absurd c_50 (by decide) | first | contradiction | omega)
              | (refine ri_aload_n h d_Md_faultOf_57 rfl ?_
                 refine ri_get h d_Md_faultOf_58 fl_Md_23 (by first | assumption | exact hS.mo | exact gup_s) (by rfl) ?_
                 refine ri_iload_n h d_Md_faultOf_61 rfl ?_
                 refine ri_ialdE h _ d_Md_faultOf_62 (by first | assumption | exact hS.a7) (by first | rfl | assumption) (by first | assumption | omega) (by first | decide | omega) (by first | assumption | exact hm.i7 (by first | assumption | omega) | rfl) ?_
                 refine ri_bipushN h 24 d_Md_faultOf_63 rfl ?_
                 first | refine ri_icmpN_ne h 72 d_Md_faultOf_65 (by decide) (by omega) (by omega) (fun c_65 => ?_) (fun c_65 => ?_) | refine ri_icmp_ne h 72 d_Md_faultOf_65 (by decide) (fun c_65 => ?_) (fun c_65 => ?_)
                 · first
                   | (exfalso; first | exact absurd c_65 (by decide) | first | contradiction | omega)
                   | (refine ri_lload_n h d_Md_faultOf_72 rfl ?_
                      refine ri_cSv_1 h d_Md_faultOf_73 cs_Md_136 (k_far h0) (Nat.le_of_ble_eq_true rfl) (Nat.le_of_ble_eq_true rfl) (Nat.le_of_ble_eq_true rfl) (Nat.le_of_ble_eq_true rfl) (Nat.le_of_ble_eq_true rfl) ?_
                      first | refine ri_ifB_ne h 87 d_Md_faultOf_76 (by decide) (fun c_76 => ?_) (fun c_76 => ?_) | refine ri_ifN_ne h 87 d_Md_faultOf_76 (by decide) (by omega) (fun c_76 => ?_) (fun c_76 => ?_) | refine ri_if_ne h 87 d_Md_faultOf_76 (by decide) (fun c_76 => ?_) (fun c_76 => ?_)
                      · first
                        | (exfalso; first | exact absurd c_76 (by decide) | first | contradiction | omega)
                        | (refine ri_iconstN h 3 d_Md_faultOf_87 rfl ?_
                           refine ri_goto h 92 d_Md_faultOf_88 (by decide) ?_
                           refine ri_ireturn h d_Md_faultOf_92 (Nat.le_of_ble_eq_true rfl) (Nat.le_of_ble_eq_true rfl) ?_
                           exact ⟨rfl, rfl⟩)
                      · first
                        | (exfalso; first | exact absurd c_76 (by decide) | first | contradiction | omega)
                        | (refine ri_lload h d_Md_faultOf_79 rfl ?_
                           refine ri_cSv_1 h d_Md_faultOf_81 cs_Md_136 (k_far h0) (Nat.le_of_ble_eq_true rfl) (Nat.le_of_ble_eq_true rfl) (Nat.le_of_ble_eq_true rfl) (Nat.le_of_ble_eq_true rfl) (Nat.le_of_ble_eq_true rfl) ?_
                           first | refine ri_ifB_eq h 91 d_Md_faultOf_84 (by decide) (fun c_84 => ?_) (fun c_84 => ?_) | refine ri_ifN_eq h 91 d_Md_faultOf_84 (by decide) (by omega) (fun c_84 => ?_) (fun c_84 => ?_) | refine ri_if_eq h 91 d_Md_faultOf_84 (by decide) (fun c_84 => ?_) (fun c_84 => ?_)
                           · first
                             | (exfalso; first | exact absurd c_84 (by decide) | first | contradiction | omega)
                             | (refine ri_iconstN h 0 d_Md_faultOf_91 rfl ?_
                                refine ri_ireturn h d_Md_faultOf_92 (Nat.le_of_ble_eq_true rfl) (Nat.le_of_ble_eq_true rfl) ?_
                                exact ⟨rfl, rfl⟩)
                           · first
                             | (exfalso; first | exact absurd c_84 (by decide) | first | contradiction | omega)
                             | (refine ri_iconstN h 3 d_Md_faultOf_87 rfl ?_
                                refine ri_goto h 92 d_Md_faultOf_88 (by decide) ?_
                                refine ri_ireturn h d_Md_faultOf_92 (Nat.le_of_ble_eq_true rfl) (Nat.le_of_ble_eq_true rfl) ?_
                                exact ⟨rfl, rfl⟩)))
                 · first
                   | (exfalso; first | exact absurd c_65 (by decide) | first | contradiction | omega)
                   | (refine ri_iconstN h 2 d_Md_faultOf_68 rfl ?_
                      refine ri_goto h 92 d_Md_faultOf_69 (by decide) ?_
                      refine ri_ireturn h d_Md_faultOf_92 (Nat.le_of_ble_eq_true rfl) (Nat.le_of_ble_eq_true rfl) ?_
                      exact ⟨rfl, rfl⟩))
            · first
              | (exfalso; first | exact absurd c_50 (by decide) | first | contradiction | omega)
              | (refine ri_iconstN h 1 d_Md_faultOf_53 rfl ?_
                 refine ri_goto h 92 d_Md_faultOf_54 (by decide) ?_
                 refine ri_ireturn h d_Md_faultOf_92 (Nat.le_of_ble_eq_true rfl) (Nat.le_of_ble_eq_true rfl) ?_
                 exact ⟨rfl, rfl⟩))
       · first
         | (exfalso; first | exact absurd c_9 (by decide) | first | contradiction | omega)
         | (refine ri_aload_n h d_Md_faultOf_12 rfl ?_
            refine ri_get h d_Md_faultOf_13 fl_Md_26 (by first | assumption | exact hS.mo | exact gup_s) (by rfl) ?_
            refine ri_iload_n h d_Md_faultOf_16 rfl ?_
            refine ri_zaldE h _ d_Md_faultOf_17 (by first | assumption | exact hS.a8) (by first | rfl | assumption) (by first | assumption | omega) (by first | decide | omega) (by first | assumption | exact hm.i8 (by first | assumption | omega) | rfl) ?_
            refine ri_if_ne h 45 d_Md_faultOf_18 (by decide) (fun c_18 => ?_) (fun c_18 => ?_)
            · first
              | (exfalso; first | exact absurd c_18 (by decide) | first | contradiction | omega)
              | (refine ri_iconstN h 0 d_Md_faultOf_45 rfl ?_
                 refine ri_istore h d_Md_faultOf_46 (Nat.le_of_ble_eq_true rfl) ?_
                 refine ri_iload h d_Md_faultOf_48 rfl ?_
                 first | refine ri_ifB_ne h 57 d_Md_faultOf_50 (by decide) (fun c_50 => ?_) (fun c_50 => ?_) | refine ri_ifN_ne h 57 d_Md_faultOf_50 (by decide) (by omega) (fun c_50 => ?_) (fun c_50 => ?_) | refine ri_if_ne h 57 d_Md_faultOf_50 (by decide) (fun c_50 => ?_) (fun c_50 => ?_)
                 · first
                   | (exfalso; first | exact absurd c_50 (by decide) | first | contradiction | omega)
                   | (refine ri_aload_n h d_Md_faultOf_57 rfl ?_
                      refine ri_get h d_Md_faultOf_58 fl_Md_23 (by first | assumption | exact hS.mo | exact gup_s) (by rfl) ?_
                      refine ri_iload_n h d_Md_faultOf_61 rfl ?_
                      refine ri_ialdE h _ d_Md_faultOf_62 (by first | assumption | exact hS.a7) (by first | rfl | assumption) (by first | assumption | omega) (by first | decide | omega) (by first | assumption | exact hm.i7 (by first | assumption | omega) | rfl) ?_
                      refine ri_bipushN h 24 d_Md_faultOf_63 rfl ?_
                      first | refine ri_icmpN_ne h 72 d_Md_faultOf_65 (by decide) (by omega) (by omega) (fun c_65 => ?_) (fun c_65 => ?_) | refine ri_icmp_ne h 72 d_Md_faultOf_65 (by decide) (fun c_65 => ?_) (fun c_65 => ?_)
                      · first
                        | (exfalso; first | exact absurd c_65 (by decide) | first | contradiction | omega)
                        | (refine ri_lload_n h d_Md_faultOf_72 rfl ?_
                           refine ri_cSv_1 h d_Md_faultOf_73 cs_Md_136 (k_far h0) (Nat.le_of_ble_eq_true rfl) (Nat.le_of_ble_eq_true rfl) (Nat.le_of_ble_eq_true rfl) (Nat.le_of_ble_eq_true rfl) (Nat.le_of_ble_eq_true rfl) ?_
                           first | refine ri_ifB_ne h 87 d_Md_faultOf_76 (by decide) (fun c_76 => ?_) (fun c_76 => ?_) | refine ri_ifN_ne h 87 d_Md_faultOf_76 (by decide) (by omega) (fun c_76 => ?_) (fun c_76 => ?_) | refine ri_if_ne h 87 d_Md_faultOf_76 (by decide) (fun c_76 => ?_) (fun c_76 => ?_)
                           · first
                             | (exfalso; first | exact absurd c_76 (by decide) | first | contradiction | omega)
                             | (refine ri_iconstN h 3 d_Md_faultOf_87 rfl ?_
                                refine ri_goto h 92 d_Md_faultOf_88 (by decide) ?_
                                refine ri_ireturn h d_Md_faultOf_92 (Nat.le_of_ble_eq_true rfl) (Nat.le_of_ble_eq_true rfl) ?_
                                exact ⟨rfl, rfl⟩)
                           · first
                             | (exfalso; first | exact absurd c_76 (by decide) | first | contradiction | omega)
                             | (refine ri_lload h d_Md_faultOf_79 rfl ?_
                                refine ri_cSv_1 h d_Md_faultOf_81 cs_Md_136 (k_far h0) (Nat.le_of_ble_eq_true rfl) (Nat.le_of_ble_eq_true rfl) (Nat.le_of_ble_eq_true rfl) (Nat.le_of_ble_eq_true rfl) (Nat.le_of_ble_eq_true rfl) ?_
                                first | refine ri_ifB_eq h 91 d_Md_faultOf_84 (by decide) (fun c_84 => ?_) (fun c_84 => ?_) | refine ri_ifN_eq h 91 d_Md_faultOf_84 (by decide) (by omega) (fun c_84 => ?_) (fun c_84 => ?_) | refine ri_if_eq h 91 d_Md_faultOf_84 (by decide) (fun c_84 => ?_) (fun c_84 => ?_)
                                · first
                                  | (exfalso; first | exact absurd c_84 (by decide) | first | contradiction | omega)
                                  | (refine ri_iconstN h 0 d_Md_faultOf_91 rfl ?_
                                     refine ri_ireturn h d_Md_faultOf_92 (Nat.le_of_ble_eq_true rfl) (Nat.le_of_ble_eq_true rfl) ?_
                                     exact ⟨rfl, rfl⟩)
                                · first
                                  | (exfalso; first | exact absurd c_84 (by decide) | first | contradiction | omega)
                                  | (refine ri_iconstN h 3 d_Md_faultOf_87 rfl ?_
                                     refine ri_goto h 92 d_Md_faultOf_88 (by decide) ?_
                                     refine ri_ireturn h d_Md_faultOf_92 (Nat.le_of_ble_eq_true rfl) (Nat.le_of_ble_eq_true rfl) ?_
                                     exact ⟨rfl, rfl⟩)))
                      · first
                        | (exfalso; first | exact absurd c_65 (by decide) | first | contradiction | omega)
                        | (refine ri_iconstN h 2 d_Md_faultOf_68 rfl ?_
                           refine ri_goto h 92 d_Md_faultOf_69 (by decide) ?_
                           refine ri_ireturn h d_Md_faultOf_92 (Nat.le_of_ble_eq_true rfl) (Nat.le_of_ble_eq_true rfl) ?_
                           exact ⟨rfl, rfl⟩))
                 · first
                   | (exfalso; first | exact absurd c_50 (by decide) | first | contradiction | omega)
                   | (refine ri_iconstN h 1 d_Md_faultOf_53 rfl ?_
                      refine ri_goto h 92 d_Md_faultOf_54 (by decide) ?_
                      refine ri_ireturn h d_Md_faultOf_92 (Nat.le_of_ble_eq_true rfl) (Nat.le_of_ble_eq_true rfl) ?_
                      exact ⟨rfl, rfl⟩))
            · first
              | (exfalso; first | exact absurd c_18 (by decide) | first | contradiction | omega)
              | (refine ri_aload_n h d_Md_faultOf_21 rfl ?_
                 refine ri_get h d_Md_faultOf_22 fl_Md_16 (by first | assumption | exact hS.mo | exact gup_s) (by rfl) ?_
                 refine ri_iload_n h d_Md_faultOf_25 rfl ?_
                 refine ri_laldE h _ d_Md_faultOf_26 (by first | assumption | exact hS.a5) (by first | rfl | assumption) (by first | assumption | omega) (by first | decide | omega) (by first | assumption | exact hm.i5 (by first | assumption | omega) | rfl) ?_
                 refine ri_lconst h 0 d_Md_faultOf_27 rfl ?_
                 refine ri_lcmp_le h 36 d_Md_faultOf_28 d_Md_faultOf_29 (by decide) (fun c_28 => ?_) (fun c_28 => ?_)
                 · first
                   | (exfalso; first | exact absurd c_28 (by decide) | first | contradiction | omega)
                   | (refine ri_iconstN h 0 d_Md_faultOf_36 rfl ?_
                      refine ri_iload_n h d_Md_faultOf_37 rfl ?_
                      first | refine ri_icmpN_ne h 45 d_Md_faultOf_38 (by decide) (by omega) (by omega) (fun c_38 => ?_) (fun c_38 => ?_) | refine ri_icmp_ne h 45 d_Md_faultOf_38 (by decide) (fun c_38 => ?_) (fun c_38 => ?_)
                      · first
                        | (exfalso; first | exact absurd c_38 (by decide) | first | contradiction | omega)
                        | (refine ri_iconstN h 0 d_Md_faultOf_45 rfl ?_
                           refine ri_istore h d_Md_faultOf_46 (Nat.le_of_ble_eq_true rfl) ?_
                           refine ri_iload h d_Md_faultOf_48 rfl ?_
                           first | refine ri_ifB_ne h 57 d_Md_faultOf_50 (by decide) (fun c_50 => ?_) (fun c_50 => ?_) | refine ri_ifN_ne h 57 d_Md_faultOf_50 (by decide) (by omega) (fun c_50 => ?_) (fun c_50 => ?_) | refine ri_if_ne h 57 d_Md_faultOf_50 (by decide) (fun c_50 => ?_) (fun c_50 => ?_)
                           · first
                             | (exfalso; first | exact absurd c_50 (by decide) | first | contradiction | omega)
                             | (refine ri_aload_n h d_Md_faultOf_57 rfl ?_
                                refine ri_get h d_Md_faultOf_58 fl_Md_23 (by first | assumption | exact hS.mo | exact gup_s) (by rfl) ?_
                                refine ri_iload_n h d_Md_faultOf_61 rfl ?_
                                refine ri_ialdE h _ d_Md_faultOf_62 (by first | assumption | exact hS.a7) (by first | rfl | assumption) (by first | assumption | omega) (by first | decide | omega) (by first | assumption | exact hm.i7 (by first | assumption | omega) | rfl) ?_
                                refine ri_bipushN h 24 d_Md_faultOf_63 rfl ?_
                                first | refine ri_icmpN_ne h 72 d_Md_faultOf_65 (by decide) (by omega) (by omega) (fun c_65 => ?_) (fun c_65 => ?_) | refine ri_icmp_ne h 72 d_Md_faultOf_65 (by decide) (fun c_65 => ?_) (fun c_65 => ?_)
                                · first
                                  | (exfalso; first | exact absurd c_65 (by decide) | first | contradiction | omega)
                                  | (refine ri_lload_n h d_Md_faultOf_72 rfl ?_
                                     refine ri_cSv_1 h d_Md_faultOf_73 cs_Md_136 (k_far h0) (Nat.le_of_ble_eq_true rfl) (Nat.le_of_ble_eq_true rfl) (Nat.le_of_ble_eq_true rfl) (Nat.le_of_ble_eq_true rfl) (Nat.le_of_ble_eq_true rfl) ?_
                                     first | refine ri_ifB_ne h 87 d_Md_faultOf_76 (by decide) (fun c_76 => ?_) (fun c_76 => ?_) | refine ri_ifN_ne h 87 d_Md_faultOf_76 (by decide) (by omega) (fun c_76 => ?_) (fun c_76 => ?_) | refine ri_if_ne h 87 d_Md_faultOf_76 (by decide) (fun c_76 => ?_) (fun c_76 => ?_)
                                     · first
                                       | (exfalso; first | exact absurd c_76 (by decide) | first | contradiction | omega)
                                       | (refine ri_iconstN h 3 d_Md_faultOf_87 rfl ?_
                                          refine ri_goto h 92 d_Md_faultOf_88 (by decide) ?_
                                          refine ri_ireturn h d_Md_faultOf_92 (Nat.le_of_ble_eq_true rfl) (Nat.le_of_ble_eq_true rfl) ?_
                                          exact ⟨rfl, rfl⟩)
                                     · first
                                       | (exfalso; first | exact absurd c_76 (by decide) | first | contradiction | omega)
                                       | (refine ri_lload h d_Md_faultOf_79 rfl ?_
                                          refine ri_cSv_1 h d_Md_faultOf_81 cs_Md_136 (k_far h0) (Nat.le_of_ble_eq_true rfl) (Nat.le_of_ble_eq_true rfl) (Nat.le_of_ble_eq_true rfl) (Nat.le_of_ble_eq_true rfl) (Nat.le_of_ble_eq_true rfl) ?_
                                          first | refine ri_ifB_eq h 91 d_Md_faultOf_84 (by decide) (fun c_84 => ?_) (fun c_84 => ?_) | refine ri_ifN_eq h 91 d_Md_faultOf_84 (by decide) (by omega) (fun c_84 => ?_) (fun c_84 => ?_) | refine ri_if_eq h 91 d_Md_faultOf_84 (by decide) (fun c_84 => ?_) (fun c_84 => ?_)
                                          · first
                                            | (exfalso; first | exact absurd c_84 (by decide) | first | contradiction | omega)
                                            | (refine ri_iconstN h 0 d_Md_faultOf_91 rfl ?_
                                               refine ri_ireturn h d_Md_faultOf_92 (Nat.le_of_ble_eq_true rfl) (Nat.le_of_ble_eq_true rfl) ?_
                                               exact ⟨rfl, rfl⟩)
                                          · first
                                            | (exfalso; first | exact absurd c_84 (by decide) | first | contradiction | omega)
                                            | (refine ri_iconstN h 3 d_Md_faultOf_87 rfl ?_
                                               refine ri_goto h 92 d_Md_faultOf_88 (by decide) ?_
                                               refine ri_ireturn h d_Md_faultOf_92 (Nat.le_of_ble_eq_true rfl) (Nat.le_of_ble_eq_true rfl) ?_
                                               exact ⟨rfl, rfl⟩)))
                                · first
                                  | (exfalso; first | exact absurd c_65 (by decide) | first | contradiction | omega)
                                  | (refine ri_iconstN h 2 d_Md_faultOf_68 rfl ?_
                                     refine ri_goto h 92 d_Md_faultOf_69 (by decide) ?_
                                     refine ri_ireturn h d_Md_faultOf_92 (Nat.le_of_ble_eq_true rfl) (Nat.le_of_ble_eq_true rfl) ?_
                                     exact ⟨rfl, rfl⟩))
                           · first
                             | (exfalso; first | exact absurd c_50 (by decide) | first | contradiction | omega)
                             | (refine ri_iconstN h 1 d_Md_faultOf_53 rfl ?_
                                refine ri_goto h 92 d_Md_faultOf_54 (by decide) ?_
                                refine ri_ireturn h d_Md_faultOf_92 (Nat.le_of_ble_eq_true rfl) (Nat.le_of_ble_eq_true rfl) ?_
                                exact ⟨rfl, rfl⟩))
                      · first
                        | (exfalso; first | exact absurd c_38 (by decide) | first | contradiction | omega)
                        | (refine ri_iconstN h 1 d_Md_faultOf_41 rfl ?_
                           refine ri_goto h 46 d_Md_faultOf_42 (by decide) ?_
                           refine ri_istore h d_Md_faultOf_46 (Nat.le_of_ble_eq_true rfl) ?_
                           refine ri_iload h d_Md_faultOf_48 rfl ?_
                           first | refine ri_ifB_ne h 57 d_Md_faultOf_50 (by decide) (fun c_50 => ?_) (fun c_50 => ?_) | refine ri_ifN_ne h 57 d_Md_faultOf_50 (by decide) (by omega) (fun c_50 => ?_) (fun c_50 => ?_) | refine ri_if_ne h 57 d_Md_faultOf_50 (by decide) (fun c_50 => ?_) (fun c_50 => ?_)
                           · first
                             | (exfalso; first | exact absurd c_50 (by decide) | first | contradiction | omega)
                             | (refine ri_aload_n h d_Md_faultOf_57 rfl ?_
                                refine ri_get h d_Md_faultOf_58 fl_Md_23 (by first | assumption | exact hS.mo | exact gup_s) (by rfl) ?_
                                refine ri_iload_n h d_Md_faultOf_61 rfl ?_
                                refine ri_ialdE h _ d_Md_faultOf_62 (by first | assumption | exact hS.a7) (by first | rfl | assumption) (by first | assumption | omega) (by first | decide | omega) (by first | assumption | exact hm.i7 (by first | assumption | omega) | rfl) ?_
                                refine ri_bipushN h 24 d_Md_faultOf_63 rfl ?_
                                first | refine ri_icmpN_ne h 72 d_Md_faultOf_65 (by decide) (by omega) (by omega) (fun c_65 => ?_) (fun c_65 => ?_) | refine ri_icmp_ne h 72 d_Md_faultOf_65 (by decide) (fun c_65 => ?_) (fun c_65 => ?_)
                                · first
                                  | (exfalso; first | exact absurd c_65 (by decide) | first | contradiction | omega)
                                  | (refine ri_lload_n h d_Md_faultOf_72 rfl ?_
                                     refine ri_cSv_1 h d_Md_faultOf_73 cs_Md_136 (k_far h0) (Nat.le_of_ble_eq_true rfl) (Nat.le_of_ble_eq_true rfl) (Nat.le_of_ble_eq_true rfl) (Nat.le_of_ble_eq_true rfl) (Nat.le_of_ble_eq_true rfl) ?_
                                     first | refine ri_ifB_ne h 87 d_Md_faultOf_76 (by decide) (fun c_76 => ?_) (fun c_76 => ?_) | refine ri_ifN_ne h 87 d_Md_faultOf_76 (by decide) (by omega) (fun c_76 => ?_) (fun c_76 => ?_) | refine ri_if_ne h 87 d_Md_faultOf_76 (by decide) (fun c_76 => ?_) (fun c_76 => ?_)
                                     · first
                                       | (exfalso; first | exact absurd c_76 (by decide) | first | contradiction | omega)
                                       | (refine ri_iconstN h 3 d_Md_faultOf_87 rfl ?_
                                          refine ri_goto h 92 d_Md_faultOf_88 (by decide) ?_
                                          refine ri_ireturn h d_Md_faultOf_92 (Nat.le_of_ble_eq_true rfl) (Nat.le_of_ble_eq_true rfl) ?_
                                          exact ⟨rfl, rfl⟩)
                                     · first
                                       | (exfalso; first | exact absurd c_76 (by decide) | first | contradiction | omega)
                                       | (refine ri_lload h d_Md_faultOf_79 rfl ?_
                                          refine ri_cSv_1 h d_Md_faultOf_81 cs_Md_136 (k_far h0) (Nat.le_of_ble_eq_true rfl) (Nat.le_of_ble_eq_true rfl) (Nat.le_of_ble_eq_true rfl) (Nat.le_of_ble_eq_true rfl) (Nat.le_of_ble_eq_true rfl) ?_
                                          first | refine ri_ifB_eq h 91 d_Md_faultOf_84 (by decide) (fun c_84 => ?_) (fun c_84 => ?_) | refine ri_ifN_eq h 91 d_Md_faultOf_84 (by decide) (by omega) (fun c_84 => ?_) (fun c_84 => ?_) | refine ri_if_eq h 91 d_Md_faultOf_84 (by decide) (fun c_84 => ?_) (fun c_84 => ?_)
                                          · first
                                            | (exfalso; first | exact absurd c_84 (by decide) | first | contradiction | omega)
                                            | (refine ri_iconstN h 0 d_Md_faultOf_91 rfl ?_
                                               refine ri_ireturn h d_Md_faultOf_92 (Nat.le_of_ble_eq_true rfl) (Nat.le_of_ble_eq_true rfl) ?_
                                               exact ⟨rfl, rfl⟩)
                                          · first
                                            | (exfalso; first | exact absurd c_84 (by decide) | first | contradiction | omega)
                                            | (refine ri_iconstN h 3 d_Md_faultOf_87 rfl ?_
                                               refine ri_goto h 92 d_Md_faultOf_88 (by decide) ?_
                                               refine ri_ireturn h d_Md_faultOf_92 (Nat.le_of_ble_eq_true rfl) (Nat.le_of_ble_eq_true rfl) ?_
                                               exact ⟨rfl, rfl⟩)))
                                · first
                                  | (exfalso; first | exact absurd c_65 (by decide) | first | contradiction | omega)
                                  | (refine ri_iconstN h 2 d_Md_faultOf_68 rfl ?_
                                     refine ri_goto h 92 d_Md_faultOf_69 (by decide) ?_
                                     refine ri_ireturn h d_Md_faultOf_92 (Nat.le_of_ble_eq_true rfl) (Nat.le_of_ble_eq_true rfl) ?_
                                     exact ⟨rfl, rfl⟩))
                           · first
                             | (exfalso; first | exact absurd c_50 (by decide) | first | contradiction | omega)
                             | (refine ri_iconstN h 1 d_Md_faultOf_53 rfl ?_
                                refine ri_goto h 92 d_Md_faultOf_54 (by decide) ?_
                                refine ri_ireturn h d_Md_faultOf_92 (Nat.le_of_ble_eq_true rfl) (Nat.le_of_ble_eq_true rfl) ?_
                                exact ⟨rfl, rfl⟩)))
                 · first
                   | (exfalso; first | exact absurd c_28 (by decide) | first | contradiction | omega)
                   | (refine ri_iconstN h 1 d_Md_faultOf_32 rfl ?_
                      refine ri_goto h 37 d_Md_faultOf_33 (by decide) ?_
                      refine ri_iload_n h d_Md_faultOf_37 rfl ?_
                      first | refine ri_icmpN_ne h 45 d_Md_faultOf_38 (by decide) (by omega) (by omega) (fun c_38 => ?_) (fun c_38 => ?_) | refine ri_icmp_ne h 45 d_Md_faultOf_38 (by decide) (fun c_38 => ?_) (fun c_38 => ?_)
                      · first
                        | (exfalso; first | exact absurd c_38 (by decide) | first | contradiction | omega)
                        | (refine ri_iconstN h 0 d_Md_faultOf_45 rfl ?_
                           refine ri_istore h d_Md_faultOf_46 (Nat.le_of_ble_eq_true rfl) ?_
                           refine ri_iload h d_Md_faultOf_48 rfl ?_
                           first | refine ri_ifB_ne h 57 d_Md_faultOf_50 (by decide) (fun c_50 => ?_) (fun c_50 => ?_) | refine ri_ifN_ne h 57 d_Md_faultOf_50 (by decide) (by omega) (fun c_50 => ?_) (fun c_50 => ?_) | refine ri_if_ne h 57 d_Md_faultOf_50 (by decide) (fun c_50 => ?_) (fun c_50 => ?_)
                           · first
                             | (exfalso; first | exact absurd c_50 (by decide) | first | contradiction | omega)
                             | (refine ri_aload_n h d_Md_faultOf_57 rfl ?_
                                refine ri_get h d_Md_faultOf_58 fl_Md_23 (by first | assumption | exact hS.mo | exact gup_s) (by rfl) ?_
                                refine ri_iload_n h d_Md_faultOf_61 rfl ?_
                                refine ri_ialdE h _ d_Md_faultOf_62 (by first | assumption | exact hS.a7) (by first | rfl | assumption) (by first | assumption | omega) (by first | decide | omega) (by first | assumption | exact hm.i7 (by first | assumption | omega) | rfl) ?_
                                refine ri_bipushN h 24 d_Md_faultOf_63 rfl ?_
                                first | refine ri_icmpN_ne h 72 d_Md_faultOf_65 (by decide) (by omega) (by omega) (fun c_65 => ?_) (fun c_65 => ?_) | refine ri_icmp_ne h 72 d_Md_faultOf_65 (by decide) (fun c_65 => ?_) (fun c_65 => ?_)
                                · first
                                  | (exfalso; first | exact absurd c_65 (by decide) | first | contradiction | omega)
                                  | (refine ri_lload_n h d_Md_faultOf_72 rfl ?_
                                     refine ri_cSv_1 h d_Md_faultOf_73 cs_Md_136 (k_far h0) (Nat.le_of_ble_eq_true rfl) (Nat.le_of_ble_eq_true rfl) (Nat.le_of_ble_eq_true rfl) (Nat.le_of_ble_eq_true rfl) (Nat.le_of_ble_eq_true rfl) ?_
                                     first | refine ri_ifB_ne h 87 d_Md_faultOf_76 (by decide) (fun c_76 => ?_) (fun c_76 => ?_) | refine ri_ifN_ne h 87 d_Md_faultOf_76 (by decide) (by omega) (fun c_76 => ?_) (fun c_76 => ?_) | refine ri_if_ne h 87 d_Md_faultOf_76 (by decide) (fun c_76 => ?_) (fun c_76 => ?_)
                                     · first
                                       | (exfalso; first | exact absurd c_76 (by decide) | first | contradiction | omega)
                                       | (refine ri_iconstN h 3 d_Md_faultOf_87 rfl ?_
                                          refine ri_goto h 92 d_Md_faultOf_88 (by decide) ?_
                                          refine ri_ireturn h d_Md_faultOf_92 (Nat.le_of_ble_eq_true rfl) (Nat.le_of_ble_eq_true rfl) ?_
                                          exact ⟨rfl, rfl⟩)
                                     · first
                                       | (exfalso; first | exact absurd c_76 (by decide) | first | contradiction | omega)
                                       | (refine ri_lload h d_Md_faultOf_79 rfl ?_
                                          refine ri_cSv_1 h d_Md_faultOf_81 cs_Md_136 (k_far h0) (Nat.le_of_ble_eq_true rfl) (Nat.le_of_ble_eq_true rfl) (Nat.le_of_ble_eq_true rfl) (Nat.le_of_ble_eq_true rfl) (Nat.le_of_ble_eq_true rfl) ?_
                                          first | refine ri_ifB_eq h 91 d_Md_faultOf_84 (by decide) (fun c_84 => ?_) (fun c_84 => ?_) | refine ri_ifN_eq h 91 d_Md_faultOf_84 (by decide) (by omega) (fun c_84 => ?_) (fun c_84 => ?_) | refine ri_if_eq h 91 d_Md_faultOf_84 (by decide) (fun c_84 => ?_) (fun c_84 => ?_)
                                          · first
                                            | (exfalso; first | exact absurd c_84 (by decide) | first | contradiction | omega)
                                            | (refine ri_iconstN h 0 d_Md_faultOf_91 rfl ?_
                                               refine ri_ireturn h d_Md_faultOf_92 (Nat.le_of_ble_eq_true rfl) (Nat.le_of_ble_eq_true rfl) ?_
                                               exact ⟨rfl, rfl⟩)
                                          · first
                                            | (exfalso; first | exact absurd c_84 (by decide) | first | contradiction | omega)
                                            | (refine ri_iconstN h 3 d_Md_faultOf_87 rfl ?_
                                               refine ri_goto h 92 d_Md_faultOf_88 (by decide) ?_
                                               refine ri_ireturn h d_Md_faultOf_92 (Nat.le_of_ble_eq_true rfl) (Nat.le_of_ble_eq_true rfl) ?_
                                               exact ⟨rfl, rfl⟩)))
                                · first
                                  | (exfalso; first | exact absurd c_65 (by decide) | first | contradiction | omega)
                                  | (refine ri_iconstN h 2 d_Md_faultOf_68 rfl ?_
                                     refine ri_goto h 92 d_Md_faultOf_69 (by decide) ?_
                                     refine ri_ireturn h d_Md_faultOf_92 (Nat.le_of_ble_eq_true rfl) (Nat.le_of_ble_eq_true rfl) ?_
                                     exact ⟨rfl, rfl⟩))
                           · first
                             | (exfalso; first | exact absurd c_50 (by decide) | first | contradiction | omega)
                             | (refine ri_iconstN h 1 d_Md_faultOf_53 rfl ?_
                                refine ri_goto h 92 d_Md_faultOf_54 (by decide) ?_
                                refine ri_ireturn h d_Md_faultOf_92 (Nat.le_of_ble_eq_true rfl) (Nat.le_of_ble_eq_true rfl) ?_
                                exact ⟨rfl, rfl⟩))
                      · first
                        | (exfalso; first | exact absurd c_38 (by decide) | first | contradiction | omega)
                        | (refine ri_iconstN h 1 d_Md_faultOf_41 rfl ?_
                           refine ri_goto h 46 d_Md_faultOf_42 (by decide) ?_
                           refine ri_istore h d_Md_faultOf_46 (Nat.le_of_ble_eq_true rfl) ?_
                           refine ri_iload h d_Md_faultOf_48 rfl ?_
                           first | refine ri_ifB_ne h 57 d_Md_faultOf_50 (by decide) (fun c_50 => ?_) (fun c_50 => ?_) | refine ri_ifN_ne h 57 d_Md_faultOf_50 (by decide) (by omega) (fun c_50 => ?_) (fun c_50 => ?_) | refine ri_if_ne h 57 d_Md_faultOf_50 (by decide) (fun c_50 => ?_) (fun c_50 => ?_)
                           · first
                             | (exfalso; first | exact absurd c_50 (by decide) | first | contradiction | omega)
                             | (refine ri_aload_n h d_Md_faultOf_57 rfl ?_
                                refine ri_get h d_Md_faultOf_58 fl_Md_23 (by first | assumption | exact hS.mo | exact gup_s) (by rfl) ?_
                                refine ri_iload_n h d_Md_faultOf_61 rfl ?_
                                refine ri_ialdE h _ d_Md_faultOf_62 (by first | assumption | exact hS.a7) (by first | rfl | assumption) (by first | assumption | omega) (by first | decide | omega) (by first | assumption | exact hm.i7 (by first | assumption | omega) | rfl) ?_
                                refine ri_bipushN h 24 d_Md_faultOf_63 rfl ?_
                                first | refine ri_icmpN_ne h 72 d_Md_faultOf_65 (by decide) (by omega) (by omega) (fun c_65 => ?_) (fun c_65 => ?_) | refine ri_icmp_ne h 72 d_Md_faultOf_65 (by decide) (fun c_65 => ?_) (fun c_65 => ?_)
                                · first
                                  | (exfalso; first | exact absurd c_65 (by decide) | first | contradiction | omega)
                                  | (refine ri_lload_n h d_Md_faultOf_72 rfl ?_
                                     refine ri_cSv_1 h d_Md_faultOf_73 cs_Md_136 (k_far h0) (Nat.le_of_ble_eq_true rfl) (Nat.le_of_ble_eq_true rfl) (Nat.le_of_ble_eq_true rfl) (Nat.le_of_ble_eq_true rfl) (Nat.le_of_ble_eq_true rfl) ?_
                                     first | refine ri_ifB_ne h 87 d_Md_faultOf_76 (by decide) (fun c_76 => ?_) (fun c_76 => ?_) | refine ri_ifN_ne h 87 d_Md_faultOf_76 (by decide) (by omega) (fun c_76 => ?_) (fun c_76 => ?_) | refine ri_if_ne h 87 d_Md_faultOf_76 (by decide) (fun c_76 => ?_) (fun c_76 => ?_)
                                     · first
                                       | (exfalso; first | exact absurd c_76 (by decide) | first | contradiction | omega)
                                       | (refine ri_iconstN h 3 d_Md_faultOf_87 rfl ?_
                                          refine ri_goto h 92 d_Md_faultOf_88 (by decide) ?_
                                          refine ri_ireturn h d_Md_faultOf_92 (Nat.le_of_ble_eq_true rfl) (Nat.le_of_ble_eq_true rfl) ?_
                                          exact ⟨rfl, rfl⟩)
                                     · first
                                       | (exfalso; first | exact absurd c_76 (by decide) | first | contradiction | omega)
                                       | (refine ri_lload h d_Md_faultOf_79 rfl ?_
                                          refine ri_cSv_1 h d_Md_faultOf_81 cs_Md_136 (k_far h0) (Nat.le_of_ble_eq_true rfl) (Nat.le_of_ble_eq_true rfl) (Nat.le_of_ble_eq_true rfl) (Nat.le_of_ble_eq_true rfl) (Nat.le_of_ble_eq_true rfl) ?_
                                          first | refine ri_ifB_eq h 91 d_Md_faultOf_84 (by decide) (fun c_84 => ?_) (fun c_84 => ?_) | refine ri_ifN_eq h 91 d_Md_faultOf_84 (by decide) (by omega) (fun c_84 => ?_) (fun c_84 => ?_) | refine ri_if_eq h 91 d_Md_faultOf_84 (by decide) (fun c_84 => ?_) (fun c_84 => ?_)
                                          · first
                                            | (exfalso; first | exact absurd c_84 (by decide) | first | contradiction | omega)
                                            | (refine ri_iconstN h 0 d_Md_faultOf_91 rfl ?_
                                               refine ri_ireturn h d_Md_faultOf_92 (Nat.le_of_ble_eq_true rfl) (Nat.le_of_ble_eq_true rfl) ?_
                                               exact ⟨rfl, rfl⟩)
                                          · first
                                            | (exfalso; first | exact absurd c_84 (by decide) | first | contradiction | omega)
                                            | (refine ri_iconstN h 3 d_Md_faultOf_87 rfl ?_
                                               refine ri_goto h 92 d_Md_faultOf_88 (by decide) ?_
                                               refine ri_ireturn h d_Md_faultOf_92 (Nat.le_of_ble_eq_true rfl) (Nat.le_of_ble_eq_true rfl) ?_
                                               exact ⟨rfl, rfl⟩)))
                                · first
                                  | (exfalso; first | exact absurd c_65 (by decide) | first | contradiction | omega)
                                  | (refine ri_iconstN h 2 d_Md_faultOf_68 rfl ?_
                                     refine ri_goto h 92 d_Md_faultOf_69 (by decide) ?_
                                     refine ri_ireturn h d_Md_faultOf_92 (Nat.le_of_ble_eq_true rfl) (Nat.le_of_ble_eq_true rfl) ?_
                                     exact ⟨rfl, rfl⟩))
                           · first
                             | (exfalso; first | exact absurd c_50 (by decide) | first | contradiction | omega)
                             | (refine ri_iconstN h 1 d_Md_faultOf_53 rfl ?_
                                refine ri_goto h 92 d_Md_faultOf_54 (by decide) ?_
                                refine ri_ireturn h d_Md_faultOf_92 (Nat.le_of_ble_eq_true rfl) (Nat.le_of_ble_eq_true rfl) ?_
                                exact ⟨rfl, rfl⟩))))))
end MC
